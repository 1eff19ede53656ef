import java.lang.reflect.Array;
import java.lang.reflect.Constructor;
import java.lang.reflect.Executable;
import java.lang.reflect.Field;
import java.lang.reflect.Method;
import java.lang.reflect.Modifier;
import java.util.ArrayList;
import java.util.Arrays;
import java.util.List;
import java.util.TreeSet;

/** The public face, no more and no less than the document's, and the room that objects take. */
public final class FaceTests {
    private static final String THROWN = " throws IndexOutOfBoundsException IllegalArgumentException";
    private static final List<String> FACE = List.of(
        "public static final int NONE",
        "public RouteTracks(int, int)",
        "public void lay(int, int)" + THROWN,
        "public void lift(int, int)" + THROWN,
        "public void signal(int, int, int, int)" + THROWN,
        "public void platform(int, int, int)" + THROWN,
        "public int at(int, int)",
        "public int next(int, int)",
        "public int before(int)",
        "public int block(int, int)",
        "public int sign(int)",
        "public boolean isTarget(int, int)",
        "public int cost(int, int)",
        "public int route(int, int, int)",
        "public int count(int)");
    /** The room of one run has 7.3 million fields and elements, for up to 512 calls. */
    private static final int MOST_ELEMENTS = 7_300_000 / 512;

    private static int wrong = 0;

    public static void main(String[] args) throws IllegalAccessException {
        face();
        names();
        staticFields();
        room();
        System.out.println(wrong == 0 ? "all is as due" : wrong + " things are not as due");
        if (wrong != 0) {
            System.exit(1);
        }
    }

    private static void fail(String text) {
        wrong++;
        System.out.println(text);
    }

    private static void face() {
        TreeSet<String> got = new TreeSet<>();
        for (Field field : RouteTracks.class.getDeclaredFields()) {
            if (!Modifier.isPrivate(field.getModifiers())) {
                got.add(Modifier.toString(field.getModifiers()) + " " + field.getType().getSimpleName() + " " + field.getName());
            }
        }
        for (Constructor<?> made : RouteTracks.class.getDeclaredConstructors()) {
            if (!Modifier.isPrivate(made.getModifiers())) {
                got.add(Modifier.toString(made.getModifiers()) + " RouteTracks" + rest(made));
            }
        }
        for (Method method : RouteTracks.class.getDeclaredMethods()) {
            if (!Modifier.isPrivate(method.getModifiers())) {
                String type = method.getReturnType().getSimpleName();
                got.add(Modifier.toString(method.getModifiers()) + " " + type + " " + method.getName() + rest(method));
            }
        }
        TreeSet<String> want = new TreeSet<>(FACE);
        if (!got.equals(want)) {
            fail("the face is " + got + ", due is " + want);
        }
        if (Modifier.toString(RouteTracks.class.getModifiers()).compareTo("public final") != 0) {
            fail("the class is not public and final alone");
        }
    }

    private static String rest(Executable code) {
        List<String> parameters = new ArrayList<>();
        for (Class<?> type : code.getParameterTypes()) {
            parameters.add(type.getSimpleName());
        }
        StringBuilder text = new StringBuilder("(" + String.join(", ", parameters) + ")");
        for (Class<?> type : code.getExceptionTypes()) {
            text.append(text.indexOf("throws") < 0 ? " throws " : " ").append(type.getSimpleName());
        }
        return text.toString();
    }

    private static List<Class<?>> classes() {
        List<Class<?>> all = new ArrayList<>();
        all.add(RouteTracks.class);
        all.addAll(Arrays.asList(RouteTracks.class.getDeclaredClasses()));
        return all;
    }

    private static void names() {
        TreeSet<String> open = new TreeSet<>();
        for (Method method : RouteTracks.class.getMethods()) {
            if (method.getDeclaringClass() == RouteTracks.class) {
                open.add(method.getName());
            }
        }
        for (Class<?> one : classes()) {
            for (Method method : one.getDeclaredMethods()) {
                boolean ofFace = one == RouteTracks.class && Modifier.isPublic(method.getModifiers());
                if (!ofFace && open.contains(method.getName())) {
                    fail(one.getSimpleName() + " has another method of the name " + method.getName());
                }
            }
        }
    }

    private static void staticFields() {
        for (Class<?> one : classes()) {
            for (Field field : one.getDeclaredFields()) {
                int modifiers = field.getModifiers();
                if (Modifier.isStatic(modifiers) && !Modifier.isFinal(modifiers)) {
                    fail(one.getSimpleName() + "." + field.getName() + " is static and not final");
                }
            }
        }
    }

    private static void room() throws IllegalAccessException {
        RouteTracks x = new RouteTracks(20, 20);
        int made = elements(x);
        if (made > MOST_ELEMENTS) {
            fail("one object takes " + made + " fields and elements, due are at most " + MOST_ELEMENTS);
        }
        for (int tile = 0; tile < 100; tile++) {
            x.lay(tile, tile % 6);
        }
        x.lay(100, 0);
        x.platform(100, 0, 0);
        x.cost(1200, 0);
        x.route(1200, 0, 3);
        x.count(3);
        if (elements(x) != made) {
            fail("an object takes " + elements(x) + " fields and elements after some calls, and " + made + " before");
        }
    }

    /** The fields and elements of an object and of all that it holds; no part is held twice. */
    private static int elements(Object object) throws IllegalAccessException {
        if (object.getClass().isArray()) {
            return Array.getLength(object);
        }
        int sum = 0;
        for (Field field : object.getClass().getDeclaredFields()) {
            if (!Modifier.isStatic(field.getModifiers())) {
                sum++;
                field.setAccessible(true);
                Object held = field.get(object);
                if (!field.getType().isPrimitive() && held != null) {
                    sum += elements(held);
                }
            }
        }
        return sum;
    }
}
