import java.io.IOException;
import java.lang.reflect.Method;
import java.lang.reflect.Modifier;
import java.nio.charset.StandardCharsets;
import java.nio.file.Files;
import java.nio.file.Path;
import java.util.ArrayList;
import java.util.List;
import java.util.TreeSet;
import java.util.regex.Matcher;
import java.util.regex.Pattern;
import java.util.stream.Stream;

/** What README.md says of the class's use and of its tests holds: run from the root of the checkout. */
public final class ReadmeTest {
    private static final Path README = Path.of("README.md");
    private static final Path TESTS = Path.of("src", "test", "java");
    private static final Path RUN = Path.of(".ci", "run");

    private static final String FIRST_LINE = "RetiredTimer t = new RetiredTimer();";
    private static final Pattern CALL = Pattern.compile("t\\.(\\w+)\\(([^()]*)\\); *// (.+)");
    // An answer ends at the colon behind it, or is all that the comment says.
    private static final Pattern ANSWER = Pattern.compile("(-?\\d+|true|false|NONE)(:.*)?");
    private static final Pattern ROW = Pattern.compile("\\| `(\\w+)\\(([^()]*)\\)` \\|.*");
    private static final Pattern TEST_NAME = Pattern.compile("`(src/test/java/[^`]+)`");

    private static int calls = 0;
    private static int wrong = 0;

    public static void main(String[] args) throws IOException, ReflectiveOperationException {
        List<String> readme = Files.readAllLines(README, StandardCharsets.UTF_8);
        TreeSet<String> used = runTheExample(exampleOf(readme));
        check(used.equals(namesOfTheFace()), "the calls of the example are " + used);
        checkTheTable(readme);
        checkTheListOfTests(readme);
        check(Files.isExecutable(RUN), RUN + " can be run");
        check(readme.contains("    " + RUN), RUN + " is named as what runs the tests");
        System.out.println(calls + " calls of README.md, " + wrong + " things are not as due");
        if (wrong != 0) {
            System.exit(1);
        }
    }

    private static void check(boolean right, String what) {
        if (!right) {
            wrong++;
            System.out.println("README.md, not as due: " + what);
        }
    }

    /** The lines between ```java and ```, without the empty ones. */
    private static List<String> exampleOf(List<String> readme) {
        List<String> example = new ArrayList<>();
        boolean inside = false;
        for (String line : readme) {
            if (line.startsWith("```")) {
                inside = line.equals("```java");
            } else if (inside && !line.isBlank()) {
                example.add(line);
            }
        }
        return example;
    }

    private static TreeSet<String> runTheExample(List<String> example) throws ReflectiveOperationException {
        TreeSet<String> used = new TreeSet<>();
        check(!example.isEmpty() && example.get(0).equals(FIRST_LINE), "the example begins with a new object");
        RetiredTimer t = new RetiredTimer();
        for (int i = 1; i < example.size(); i++) {
            Matcher call = CALL.matcher(example.get(i));
            if (call.matches()) {
                calls++;
                used.add(call.group(1));
                checkTheCall(t, example.get(i), call);
            } else {
                check(false, "no call with its answer: " + example.get(i));
            }
        }
        return used;
    }

    private static void checkTheCall(RetiredTimer t, String line, Matcher call) throws ReflectiveOperationException {
        String[] words = call.group(2).isBlank() ? new String[0] : call.group(2).split(", ");
        Method method = methodOf(call.group(1), words.length);
        if (method == null) {
            check(false, "the class has no such call: " + line);
            return;
        }
        Matcher said = ANSWER.matcher(call.group(3));
        Object got = method.invoke(t, argumentsOf(method, words));
        if (method.getReturnType() == void.class) {
            check(!said.matches(), "there is no answer: " + line);
        } else {
            String want = said.matches() ? said.group(1).replace("NONE", "-1") : "";
            check(want.equals(String.valueOf(got)), "answered " + got + ": " + line);
        }
    }

    private static Object[] argumentsOf(Method method, String[] words) {
        Object[] arguments = new Object[words.length];
        for (int i = 0; i < words.length; i++) {
            boolean number = method.getParameterTypes()[i] == int.class;
            arguments[i] = number ? (Object) Integer.valueOf(words[i]) : (Object) Boolean.valueOf(words[i]);
        }
        return arguments;
    }

    private static Method methodOf(String name, int parameters) {
        for (Method method : RetiredTimer.class.getDeclaredMethods()) {
            boolean open = Modifier.isPublic(method.getModifiers());
            if (open && method.getName().equals(name) && method.getParameterCount() == parameters) {
                return method;
            }
        }
        return null;
    }

    private static TreeSet<String> namesOfTheFace() {
        TreeSet<String> names = new TreeSet<>();
        for (Method method : RetiredTimer.class.getDeclaredMethods()) {
            if (Modifier.isPublic(method.getModifiers())) {
                names.add(method.getName());
            }
        }
        return names;
    }

    private static void checkTheTable(List<String> readme) {
        TreeSet<String> names = new TreeSet<>();
        for (String line : readme) {
            Matcher row = ROW.matcher(line);
            if (row.matches()) {
                int parameters = row.group(2).isBlank() ? 0 : row.group(2).split(", ").length;
                check(methodOf(row.group(1), parameters) != null, "the class has no such call: " + line);
                names.add(row.group(1));
            }
        }
        check(names.equals(namesOfTheFace()), "the calls of the table are " + names);
    }

    private static void checkTheListOfTests(List<String> readme) throws IOException {
        TreeSet<String> named = new TreeSet<>();
        Matcher test = TEST_NAME.matcher(String.join("\n", readme));
        while (test.find()) {
            named.add(test.group(1));
        }
        TreeSet<String> there = new TreeSet<>();
        try (Stream<Path> files = Files.walk(TESTS)) {
            files.filter(Files::isRegularFile).forEach(file -> there.add(file.toString()));
        }
        check(named.equals(there), "the tests named are " + named + ", those of the project are " + there);
    }
}
