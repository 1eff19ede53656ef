import java.lang.reflect.Constructor;
import java.lang.reflect.Executable;
import java.lang.reflect.Field;
import java.lang.reflect.Method;
import java.lang.reflect.Modifier;
import java.util.ArrayList;
import java.util.Arrays;
import java.util.List;
import java.util.TreeSet;

/** The public face, no more and no less than the document's, and LANGUAGE.md's rules 1 and 5 as far as they are seen. */
public final class FaceTests {
    private static final String THROWN = " throws IndexOutOfBoundsException IllegalArgumentException";
    private static final List<String> FACE = List.of(
        "public static final int NONE",
        "public RouteTracks(int, int)",
        "public void lay(int, int)" + THROWN,
        "public void lift(int, int)" + THROWN,
        "public void signal(int, int, int, int)" + THROWN,
        "public void platform(int, int, int)" + THROWN,
        "public int at(int, int)",
        "public int next(int, int)",
        "public int before(int)",
        "public int block(int, int)",
        "public int sign(int)",
        "public boolean isTarget(int, int)",
        "public int cost(int, int)",
        "public int route(int, int, int)",
        "public int count(int)");

    private static int wrong = 0;

    public static void main(String[] args) {
        face();
        names();
        staticFields();
        System.out.println(wrong == 0 ? "all is as due" : wrong + " things are not as due");
        if (wrong != 0) {
            System.exit(1);
        }
    }

    private static void fail(String text) {
        wrong++;
        System.out.println(text);
    }

    private static void face() {
        TreeSet<String> got = new TreeSet<>();
        for (Field field : RouteTracks.class.getDeclaredFields()) {
            if (!Modifier.isPrivate(field.getModifiers())) {
                got.add(Modifier.toString(field.getModifiers()) + " " + field.getType().getSimpleName() + " " + field.getName());
            }
        }
        for (Constructor<?> made : RouteTracks.class.getDeclaredConstructors()) {
            if (!Modifier.isPrivate(made.getModifiers())) {
                got.add(Modifier.toString(made.getModifiers()) + " RouteTracks" + rest(made));
            }
        }
        for (Method method : RouteTracks.class.getDeclaredMethods()) {
            if (!Modifier.isPrivate(method.getModifiers())) {
                String type = method.getReturnType().getSimpleName();
                got.add(Modifier.toString(method.getModifiers()) + " " + type + " " + method.getName() + rest(method));
            }
        }
        TreeSet<String> want = new TreeSet<>(FACE);
        if (!got.equals(want)) {
            fail("the face is " + got + ", due is " + want);
        }
        if (Modifier.toString(RouteTracks.class.getModifiers()).compareTo("public final") != 0) {
            fail("the class is not public and final alone");
        }
    }

    private static String rest(Executable code) {
        List<String> parameters = new ArrayList<>();
        for (Class<?> type : code.getParameterTypes()) {
            parameters.add(type.getSimpleName());
        }
        StringBuilder text = new StringBuilder("(" + String.join(", ", parameters) + ")");
        for (Class<?> type : code.getExceptionTypes()) {
            text.append(text.indexOf("throws") < 0 ? " throws " : " ").append(type.getSimpleName());
        }
        return text.toString();
    }

    private static List<Class<?>> classes() {
        List<Class<?>> all = new ArrayList<>();
        all.add(RouteTracks.class);
        all.addAll(Arrays.asList(RouteTracks.class.getDeclaredClasses()));
        return all;
    }

    private static void names() {
        TreeSet<String> open = new TreeSet<>();
        for (Method method : RouteTracks.class.getMethods()) {
            if (method.getDeclaringClass() == RouteTracks.class) {
                open.add(method.getName());
            }
        }
        for (Method method : RouteTracks.class.getDeclaredMethods()) {
            if (Modifier.isPrivate(method.getModifiers()) && open.contains(method.getName())) {
                fail("a private method has the name " + method.getName());
            }
        }
    }

    private static void staticFields() {
        for (Class<?> one : classes()) {
            for (Field field : one.getDeclaredFields()) {
                int modifiers = field.getModifiers();
                if (Modifier.isStatic(modifiers) && !Modifier.isFinal(modifiers)) {
                    fail(one.getSimpleName() + "." + field.getName() + " is static and not final");
                }
            }
        }
    }
}
