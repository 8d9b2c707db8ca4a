import java.io.IOException;
import java.lang.reflect.Field;
import java.lang.reflect.Method;
import java.lang.reflect.Modifier;
import java.nio.file.Files;
import java.nio.file.Path;
import java.util.List;
import java.util.regex.Matcher;
import java.util.regex.Pattern;
import java.util.stream.Stream;

/** What README.md tells of the class is so: its example's answers, the calls, the constants; and it names every test. */
public final class ReadmeTest {
    private static final Path README = Path.of("README.md");
    private static final Path TESTS = Path.of("src/test/java");
    private static final Pattern TEXT = Pattern.compile("String text = \"(.*)\";");
    private static final Pattern CALL = Pattern.compile("x\\.(\\w+)\\(([-0-9, ]*)\\);\\s*// (-?\\d+): .+");
    private static int wrong = 0;

    public static void main(String[] args) throws Exception {
        String readme = Files.readString(README);
        example(readme);
        face(readme);
        tests(readme);
        due("it says how the tests are run", readme.contains("\n    .ci/run\n"), true);
        System.out.println(wrong == 0 ? "readme: all that it tells is so" : "readme: " + wrong + " things are not as told");
        if (wrong != 0) {
            System.exit(1);
        }
    }

    private static void due(String what, Object got, Object want) {
        if (!got.equals(want)) {
            wrong++;
            System.out.println(what + ": " + got + ", due is " + want);
        }
    }

    /** Each line of the example that tells an answer is called, in its turn, on one object. */
    private static void example(String readme) throws ReflectiveOperationException {
        int begin = readme.indexOf("```java");
        int end = readme.indexOf("```", begin + 1);
        due("there is an example", begin >= 0 && end > begin, true);
        SignTriples x = new SignTriples();
        int calls = 0;
        for (String line : readme.substring(begin, end).split("\n")) {
            Matcher text = TEXT.matcher(line);
            Matcher call = CALL.matcher(line);
            if (text.matches()) {
                text.group(1).chars().forEach(x::write);
            } else if (call.matches()) {
                due(line, answer(x, call.group(1), call.group(2)), Integer.valueOf(call.group(3)));
                calls++;
            } else {
                due("a call without its answer: " + line, line.startsWith("x."), false);
            }
        }
        due("the example has calls", calls > 0, true);
    }

    private static Object answer(SignTriples x, String name, String told) throws ReflectiveOperationException {
        String[] numbers = told.isEmpty() ? new String[0] : told.split(", ");
        Class<?>[] types = new Class<?>[numbers.length];
        Object[] values = new Object[numbers.length];
        for (int i = 0; i < numbers.length; i++) {
            types[i] = int.class;
            values[i] = Integer.valueOf(numbers[i]);
        }
        return SignTriples.class.getMethod(name, types).invoke(x, values);
    }

    private static void face(String readme) throws IllegalAccessException {
        for (Method m : SignTriples.class.getDeclaredMethods()) {
            if (Modifier.isPublic(m.getModifiers())) {
                due("it names " + m.getName(), readme.contains("`" + m.getName() + "`"), true);
            }
        }
        for (Field f : SignTriples.class.getDeclaredFields()) {
            if (Modifier.isPublic(f.getModifiers())) {
                String told = "`" + f.getName() + "` " + f.get(null);
                due("it tells " + told, Pattern.compile(told + "\\b").matcher(readme).find(), true);
            }
        }
    }

    private static void tests(String readme) throws IOException {
        List<String> names;
        try (Stream<Path> files = Files.list(TESTS)) {
            names = files.map(file -> file.getFileName().toString().replace(".java", "")).toList();
        }
        for (String name : names) {
            due("it names " + name, readme.contains("`" + name + "`"), true);
        }
    }
}
