import java.nio.file.Files;
import java.nio.file.Path;
import java.util.ArrayDeque;
import java.util.Deque;
import java.util.List;
import java.util.regex.Matcher;
import java.util.regex.Pattern;

/** Looks at the source of LongNoon for what LANGUAGE.md rules out, as far as its words show it. */
public final class LanguageTest {
    private static int wrong = 0;

    private static void none(String rule, String source, String pattern) {
        Matcher m = Pattern.compile(pattern).matcher(source);
        while (m.find()) {
            wrong++;
            int line = source.substring(0, m.start()).split("\n", -1).length;
            System.out.println("line " + line + ", rule " + rule + ": " + m.group().trim());
        }
    }

    /** Blanks out comments, texts and signs, so that places stay. */
    private static String bare(String source) {
        Matcher m = Pattern.compile("/\\*.*?\\*/|//[^\n]*|\"(?:[^\"\\\\\n]|\\\\.)*\"|'(?:[^'\\\\\n]|\\\\.)+'",
            Pattern.DOTALL).matcher(source);
        StringBuilder out = new StringBuilder();
        int from = 0;
        while (m.find()) {
            out.append(source, from, m.start());
            char first = m.group().charAt(0);
            String instead = m.group().replaceAll("[^\n]", " ");
            out.append(first == '/' ? instead : first + instead.substring(2) + first);
            from = m.end();
        }
        return out.append(source.substring(from)).toString();
    }

    private static void lookAtLengths(String source) {
        Deque<Integer> open = new ArrayDeque<>();
        List<String> lines = source.lines().toList();
        for (int n = 0; n < lines.size(); n++) {
            for (char c : lines.get(n).toCharArray()) {
                if (c == '{') {
                    open.push(n);
                } else if (c == '}') {
                    int from = open.pop();
                    boolean isMethod = lines.get(from).matches(".*\\)\\s*\\{.*")
                        && !lines.get(from).matches("\\s*(\\}|for|if|while|switch|do).*");
                    if (isMethod && n - from >= 60) {
                        wrong++;
                        System.out.println("line " + (from + 1) + ", rule 11: a method of " + (n - from + 1) + " lines");
                    }
                }
            }
        }
    }

    public static void main(String[] args) throws Exception {
        String path = args.length > 0 ? args[0] : "src/main/java/LongNoon.java";
        String source = bare(Files.readString(Path.of(path)));
        none("1", source, "\\b(protected|package|import)\\b");
        none("2", source, "->|::|\\bnew\\s+\\w+\\s*\\([^()]*\\)\\s*\\{");
        none("3", source, "\\b(double|float|Object|var|HashMap|Map|Set|Optional)\\b|\\[\\]\\s*\\[\\]\\s*\\[\\]");
        none("4", source, "\\bSystem\\.(?!arraycopy\\b)|\\bArrays\\.(?!copyOf\\b|copyOfRange\\b|fill\\b)");
        none("4", source, "\\bMath\\.(?!max\\b|min\\b|abs\\b|floorDiv\\b|floorMod\\b)|Exact\\b|\\bString\\.");
        none("5", source, "\\bstatic\\s*\\{|\\bstatic\\s+(?!final\\b|int\\s+\\w+\\(|boolean\\s+\\w+\\()");
        none("6", source, "\\b(throw|throws|try|catch|synchronized|assert|equals|hashCode|toString)\\b");
        none("10", source, "\"\\s*\\+|\\+\\s*\"");
        none("13", source, "\\b(Random|Thread|nanoTime|currentTimeMillis|File|Process|Runtime|Class)\\b");
        none("9", source, "while\\s*\\(\\s*true\\s*\\)|for\\s*\\(\\s*;\\s*;");
        lookAtLengths(source);
        System.out.println(wrong == 0 ? "the source keeps to the words of LANGUAGE.md" : wrong + " places are ruled out");
        if (wrong != 0) {
            System.exit(1);
        }
    }
}
