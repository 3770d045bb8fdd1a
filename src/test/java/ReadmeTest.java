import java.io.IOException;
import java.lang.reflect.Method;
import java.lang.reflect.Modifier;
import java.net.URL;
import java.net.URLClassLoader;
import java.nio.file.DirectoryStream;
import java.nio.file.Files;
import java.nio.file.Path;
import java.util.ArrayList;
import java.util.List;
import java.util.Set;
import java.util.TreeSet;
import java.util.regex.Matcher;
import java.util.regex.Pattern;
import javax.tools.ToolProvider;

/** The calls that README.md shows answer what stands behind them, and it shows every call of the face. */
public final class ReadmeTest {
    private static final String EXAMPLE = "ReadmeExample";
    private static final Pattern CALL = Pattern.compile("(noon\\.(\\w+)\\(.*\\)); +// (-?\\d+|NO)(:.*)?");

    private final List<String> lines = new ArrayList<>();
    private final Set<String> shown = new TreeSet<>();
    private int answers = 0;
    private int wrong = 0;

    private void fault(String what) {
        wrong++;
        System.out.println("README.md: " + what);
    }

    /** Takes the java in it, each call with an answer as a comparison of both. */
    private void take(List<String> readme) {
        boolean isJava = false;
        for (String line : readme) {
            if (line.startsWith("```")) {
                isJava = line.equals("```java");
            } else if (isJava) {
                lines.add(compared(line));
            }
        }
    }

    private String compared(String line) {
        Matcher call = CALL.matcher(line);
        if (!call.matches()) {
            if (line.contains("//")) {
                fault("no call with an answer: " + line);
            }
            return line;
        }
        answers++;
        shown.add(call.group(2));
        String due = call.group(3).equals("NO") ? "LongNoon.NO" : call.group(3) + "L";
        return "due(\"" + call.group(1) + "\", " + call.group(1) + ", " + due + ");";
    }

    private String program() {
        return "public final class " + EXAMPLE + " {\n"
            + "private static int wrong = 0;\n"
            + "private static void due(String call, long got, long want) {\n"
            + "if (got != want) { wrong++; System.out.println(\"README.md: \" + call + \" answers \" + got); }\n"
            + "}\n"
            + "public static int run() {\n" + String.join("\n", lines) + "\nreturn wrong;\n}\n}\n";
    }

    private void runIn(Path place) throws IOException, ReflectiveOperationException {
        Path source = place.resolve(EXAMPLE + ".java");
        Files.writeString(source, program());
        int failed = ToolProvider.getSystemJavaCompiler().run(null, null, null, "-cp",
            System.getProperty("java.class.path"), "-d", place.toString(), source.toString());
        if (failed != 0) {
            fault("its java does not compile");
            return;
        }
        try (URLClassLoader loader = new URLClassLoader(new URL[] {place.toUri().toURL()})) {
            wrong += (Integer) loader.loadClass(EXAMPLE).getMethod("run").invoke(null);
        }
    }

    private void run() throws IOException, ReflectiveOperationException {
        Path place = Files.createTempDirectory("readme");
        try {
            runIn(place);
        } finally {
            try (DirectoryStream<Path> left = Files.newDirectoryStream(place)) {
                for (Path file : left) {
                    Files.delete(file);
                }
            }
            Files.delete(place);
        }
    }

    private void lookForCalls() {
        for (Method m : LongNoon.class.getDeclaredMethods()) {
            if (Modifier.isPublic(m.getModifiers()) && !shown.contains(m.getName())) {
                fault("shows no call of " + m.getName());
            }
        }
    }

    /** How to run the tests: by .ci/run, and what each looks at. */
    private void lookForTests(String readme) throws IOException {
        if (!readme.contains("\n    .ci/run\n")) {
            fault("does not tell how to run the tests");
        }
        try (DirectoryStream<Path> files = Files.newDirectoryStream(Path.of("src/test/java"), "*.java")) {
            for (Path file : files) {
                String name = file.getFileName().toString().replace(".java", "");
                if (!readme.contains("`" + name + "`")) {
                    fault("does not tell of " + name);
                }
            }
        }
    }

    public static void main(String[] args) throws IOException, ReflectiveOperationException {
        Watch.begin();
        Path readme = Path.of("README.md");
        ReadmeTest test = new ReadmeTest();
        test.take(Files.readAllLines(readme));
        test.run();
        test.lookForCalls();
        test.lookForTests(Files.readString(readme));
        System.out.println(test.wrong == 0 ? "the " + test.answers + " calls of README.md answer what it says"
            : test.wrong + " places of README.md are not as due");
        if (test.wrong != 0) {
            System.exit(1);
        }
    }
}
