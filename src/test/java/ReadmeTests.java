import java.io.IOException;
import java.lang.reflect.InvocationTargetException;
import java.lang.reflect.Method;
import java.nio.file.Files;
import java.nio.file.Path;
import java.util.ArrayList;
import java.util.List;
import java.util.Set;
import java.util.TreeSet;
import java.util.regex.Matcher;
import java.util.regex.Pattern;

/** README.md tells the truth: its example's answers are the class's, and its table has each call of the face. */
public final class ReadmeTests {
    private static final Path README = Path.of("README.md");
    private static final Pattern MADE = Pattern.compile("RouteTracks tracks = new RouteTracks\\((.+?)\\);.*");
    private static final Pattern CALLED = Pattern.compile("tracks\\.(\\w+)\\((.+?)\\);\\s*(?://\\s*(.*))?");
    private static final Pattern THROWN = Pattern.compile("throws (\\w+).*");
    private static final Pattern ANSWERED = Pattern.compile("(-?\\d+|true|false|RouteTracks\\.NONE)\\b.*");
    private static final Pattern LISTED = Pattern.compile("\\| `(\\w+)\\((.+?)\\)` \\| .+ \\|");

    private static int wrong = 0;

    public static void main(String[] args) throws IOException, IllegalAccessException {
        List<String> lines = Files.readAllLines(README);
        example(lines);
        table(lines);
        commands(lines);
        System.out.println(wrong == 0 ? "all is as due" : wrong + " things are not as due");
        if (wrong != 0) {
            System.exit(1);
        }
    }

    private static void fail(String text) {
        wrong++;
        System.out.println(text);
    }

    private static void example(List<String> lines) throws IllegalAccessException {
        RouteTracks tracks = null;
        Set<String> used = new TreeSet<>();
        for (String line : inside(lines)) {
            Matcher made = MADE.matcher(line);
            Matcher called = CALLED.matcher(line);
            if (made.matches()) {
                Integer[] sides = numbers(made.group(1));
                tracks = new RouteTracks(sides[0], sides[1]);
            } else if (tracks != null && called.matches()) {
                used.add(called.group(1));
                callDue(tracks, line, called);
            } else {
                fail("not understood: " + line);
            }
        }
        if (!used.equals(names())) {
            fail("the example uses " + used + ", the class has " + names());
        }
    }

    private static List<String> inside(List<String> lines) {
        int begin = lines.indexOf("```java");
        List<String> rest = lines.subList(begin + 1, lines.size());
        return rest.subList(0, Math.max(0, rest.indexOf("```")));
    }

    private static Integer[] numbers(String list) {
        String[] parts = list.split(",\\s*");
        Integer[] numbers = new Integer[parts.length];
        for (int i = 0; i < parts.length; i++) {
            numbers[i] = Integer.valueOf(parts[i]);
        }
        return numbers;
    }

    private static void callDue(RouteTracks tracks, String line, Matcher called) throws IllegalAccessException {
        Integer[] numbers = numbers(called.group(2));
        Method method = method(called.group(1), numbers.length);
        if (method == null) {
            fail("no such call: " + line);
            return;
        }
        String got;
        try {
            got = String.valueOf(method.invoke(tracks, (Object[]) numbers));
        } catch (InvocationTargetException e) {
            got = "throws " + e.getCause().getClass().getSimpleName();
        }
        String want = told(method, called.group(3) == null ? "" : called.group(3));
        if (!got.equals(want)) {
            fail(line + " -- answered " + got);
        }
    }

    /** What the words behind a call tell, in the form of the answer; "null" where a call answers nothing. */
    private static String told(Method method, String words) {
        Matcher thrown = THROWN.matcher(words);
        if (thrown.matches()) {
            return "throws " + thrown.group(1);
        }
        if (method.getReturnType() == void.class) {
            return "null";
        }
        Matcher answered = ANSWERED.matcher(words);
        if (!answered.matches()) {
            return "nothing told";
        }
        return answered.group(1).equals("RouteTracks.NONE") ? "" + RouteTracks.NONE : answered.group(1);
    }

    private static Method method(String name, int parameters) {
        for (Method method : RouteTracks.class.getMethods()) {
            if (method.getName().equals(name) && method.getParameterCount() == parameters) {
                return method;
            }
        }
        return null;
    }

    private static Set<String> names() {
        Set<String> names = new TreeSet<>();
        for (Method method : RouteTracks.class.getMethods()) {
            if (method.getDeclaringClass() == RouteTracks.class) {
                names.add(method.getName());
            }
        }
        return names;
    }

    private static void table(List<String> lines) {
        Set<String> listed = new TreeSet<>();
        for (String line : lines) {
            Matcher row = LISTED.matcher(line);
            if (row.matches()) {
                listed.add(row.group(1) + " " + row.group(2).split(",").length);
            }
        }
        Set<String> want = new TreeSet<>();
        want.add("RouteTracks " + RouteTracks.class.getConstructors()[0].getParameterCount());
        for (String name : names()) {
            for (Method method : RouteTracks.class.getMethods()) {
                if (method.getName().equals(name)) {
                    want.add(name + " " + method.getParameterCount());
                }
            }
        }
        if (!listed.equals(want)) {
            fail("the table has " + listed + ", due is " + want);
        }
    }

    /** How the tests are run, where the class stands, and each of the project's tests are told. */
    private static void commands(List<String> lines) throws IOException {
        List<String> told = new ArrayList<>(List.of("    .ci/run", "src/main/java/RouteTracks.java"));
        try (var tests = Files.newDirectoryStream(Path.of("src/test/java"), "*.java")) {
            for (Path test : tests) {
                told.add("`src/test/java/" + test.getFileName() + "`");
            }
        }
        String text = String.join("\n", lines);
        for (String one : told) {
            if (!text.contains(one)) {
                fail("README.md does not tell of " + one.trim());
            }
        }
    }
}
