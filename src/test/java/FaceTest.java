import java.lang.reflect.Constructor;
import java.lang.reflect.Field;
import java.lang.reflect.Method;
import java.lang.reflect.Modifier;
import java.util.Set;
import java.util.TreeSet;

/** The public face is the document's and no more; no private method bears the name of a public one. */
public final class FaceTest {
    private static final String[] FACE = {
        "int house(int,int,int,int)", "int of(int,int)", "int set(int,int,int)", "int row(int,int,int)",
        "int feed(int)", "int ground()", "int told(int)", "int day()", "int on(int,int,int)", "int first(int)",
        "int never()", "int cap(int)", "int full(int)", "int heat(int,int)", "int big(int)",
        "int gives(int,int,int)", "int turn(int,int)", "int alike(int,int)", "int see(int,int,int)",
        "int leaks(int)", "int dry(int)", "long odds(int,int)", "long mean(int,int)", "int book(int)",
        "int looked()", "int judge(int,int)", "int image()", "int undo()", "int act(int,int,int)",
        "int trace(int)", "int taken(int,int)", "int count(int)", "int tape(int,int,int)",
        "int item(int,int,long)", "long read(int,int)", "int shift(int,int,int,int,int)"
    };
    private static final String[] CONSTANTS = {"int BAD", "int FULL", "int NONE", "int STATE", "long NO"};

    private static int wrong = 0;

    private static void due(String what, Object got, Object want) {
        if (!got.equals(want)) {
            wrong++;
            System.out.println(what + ": " + got + ", due is " + want);
        }
    }

    private static String told(Method m) {
        StringBuilder text = new StringBuilder(m.getReturnType() + " " + m.getName() + "(");
        for (Class<?> type : m.getParameterTypes()) {
            text.append(text.charAt(text.length() - 1) == '(' ? "" : ",").append(type);
        }
        return text.append(")").toString();
    }

    private static void lookAtMethods(Class<?> of, Set<String> names) {
        for (Method m : of.getDeclaredMethods()) {
            boolean isFace = of == LongNoon.class && Modifier.isPublic(m.getModifiers());
            due(of.getName() + "." + m.getName() + " bears a public name", !isFace && names.contains(m.getName()), false);
            due(m.getName() + " takes more than seven", m.getParameterCount() > 7, false);
            if (of == LongNoon.class && !isFace) {
                due(m.getName() + " is private", Modifier.isPrivate(m.getModifiers()), true);
            }
        }
    }

    private static void lookAtFields(Class<?> of) {
        int fields = 0;
        for (Field f : of.getDeclaredFields()) {
            if (Modifier.isStatic(f.getModifiers())) {
                due(of.getName() + "." + f.getName() + " is final", Modifier.isFinal(f.getModifiers()), true);
            } else {
                fields++;
            }
        }
        due(of.getName() + " has more than twenty fields", fields > 20, false);
    }

    public static void main(String[] args) {
        Class<?> noon = LongNoon.class;
        Set<String> methods = new TreeSet<>();
        Set<String> names = new TreeSet<>();
        for (Method m : noon.getDeclaredMethods()) {
            if (Modifier.isPublic(m.getModifiers())) {
                methods.add(told(m));
                names.add(m.getName());
                due(m.getName() + " is static", Modifier.isStatic(m.getModifiers()), false);
            }
        }
        due("methods", methods, new TreeSet<>(Set.of(FACE)));
        Set<String> constants = new TreeSet<>();
        for (Field f : noon.getDeclaredFields()) {
            if (!Modifier.isPrivate(f.getModifiers())) {
                constants.add(f.getType() + " " + f.getName());
                due(f.getName() + " is public static final", f.getModifiers(),
                    Modifier.PUBLIC | Modifier.STATIC | Modifier.FINAL);
            }
        }
        due("constants", constants, new TreeSet<>(Set.of(CONSTANTS)));
        Constructor<?>[] made = noon.getDeclaredConstructors();
        due("one constructor, without anything", made.length == 1 && made[0].getParameterCount() == 0
            && Modifier.isPublic(made[0].getModifiers()), true);
        due("final", Modifier.isFinal(noon.getModifiers()), true);
        due("no package", noon.getPackageName(), "");
        due("classes inside", noon.getDeclaredClasses().length <= 11, true);
        lookAtMethods(noon, names);
        lookAtFields(noon);
        for (Class<?> inside : noon.getDeclaredClasses()) {
            due(inside.getName() + " is static", Modifier.isStatic(inside.getModifiers()), true);
            due(inside.getName() + " is public", Modifier.isPublic(inside.getModifiers()), false);
            due(inside.getName() + " has classes inside", inside.getDeclaredClasses().length, 0);
            lookAtMethods(inside, names);
            lookAtFields(inside);
        }
        System.out.println(wrong == 0 ? "the face is the document's" : wrong + " of the face are not as due");
        if (wrong != 0) {
            System.exit(1);
        }
    }
}
