import java.io.IOException;
import java.lang.reflect.Method;
import java.lang.reflect.Modifier;
import java.nio.file.Files;
import java.nio.file.Path;
import java.util.HashMap;
import java.util.Map;
import java.util.TreeSet;
import java.util.regex.Matcher;
import java.util.regex.Pattern;
import java.util.stream.Stream;

/** That what README.md says is so: its example's answers, its calls, its tests. */
public final class ReadmeTest {
    private static final Path README = Path.of("README.md");
    private static final Path TESTS = Path.of("src/test/java");
    private static final Pattern EXAMPLE = Pattern.compile(
            "(?:int (\\w+) = )?rows\\.(\\w+)\\(([^)]*)\\); *// (?:throws )?([\\w.-]+).*");

    public static void main(String[] args) throws Exception {
        String text = Files.readString(README);
        example(text);
        calls(text);
        tests(text);
        Check.is(".ci/run can be run", Files.isExecutable(Path.of(".ci/run")), true);
        Check.end();
    }

    /** Every call of the example, made in its order; the comment behind it begins with the answer. */
    private static void example(String text) throws Exception {
        Matcher block = Pattern.compile("(?s)```java\n(.*?)```").matcher(text);
        Check.is("there is an example", block.find(), true);
        TrackRows rows = new TrackRows();
        Map<String, Integer> named = new HashMap<>();
        for (String line : block.group(1).lines().skip(1).toList()) {
            Matcher call = EXAMPLE.matcher(line);
            Check.is("understood: " + line, call.matches(), true);
            Object answer = answerOf(rows, named, call.group(2), call.group(3));
            Check.is(line + " answered " + answer, answer.toString().equals(due(call.group(4))), true);
            if (call.group(1) != null) {
                named.put(call.group(1), (Integer) answer);
            }
        }
    }

    private static Object answerOf(TrackRows rows, Map<String, Integer> named, String name, String numbers)
            throws IllegalAccessException {
        String[] each = numbers.isEmpty() ? new String[0] : numbers.split(", ");
        Object[] given = new Object[each.length];
        Class<?>[] kinds = new Class<?>[each.length];
        for (int k = 0; k < each.length; k++) {
            given[k] = named.containsKey(each[k]) ? named.get(each[k]) : Integer.valueOf(each[k]);
            kinds[k] = int.class;
        }
        try {
            return TrackRows.class.getMethod(name, kinds).invoke(rows, given);
        } catch (java.lang.reflect.InvocationTargetException e) {
            return e.getCause().getClass().getSimpleName();
        } catch (NoSuchMethodException e) {
            return "no such call";
        }
    }

    private static String due(String word) {
        switch (word) {
            case "TrackRows.NONE":
                return "-1";
            case "TrackRows.TWICE":
                return "-2";
            default:
                return word;
        }
    }

    /** The table of calls has every call of the face, with as many numbers as it takes, and no other. */
    private static void calls(String text) {
        TreeSet<String> told = new TreeSet<>();
        Matcher rows = Pattern.compile("(?m)^\\| `(\\w+)\\(([^)]*)\\)` \\|").matcher(text);
        while (rows.find()) {
            int numbers = rows.group(2).isEmpty() ? 0 : rows.group(2).split(", ").length;
            told.add(rows.group(1) + " " + numbers);
        }
        TreeSet<String> there = new TreeSet<>();
        for (Method m : TrackRows.class.getDeclaredMethods()) {
            if (Modifier.isPublic(m.getModifiers())) {
                there.add(m.getName() + " " + m.getParameterCount());
            }
        }
        Check.is("calls that README.md tells " + told, told.equals(there), true);
    }

    /** README.md names every test that there is, and none that is not; its table has every promise. */
    private static void tests(String text) throws IOException {
        TreeSet<String> told = new TreeSet<>();
        Matcher names = Pattern.compile("\\b([A-Z]\\w*Test)\\b").matcher(text);
        while (names.find()) {
            told.add(names.group(1));
        }
        TreeSet<String> there = new TreeSet<>();
        try (Stream<Path> files = Files.list(TESTS)) {
            files.map(f -> f.getFileName().toString()).filter(f -> f.endsWith("Test.java"))
                    .forEach(f -> there.add(f.replace(".java", "")));
        }
        Check.is("tests that README.md tells " + told, told.equals(there), true);
        TreeSet<Integer> promises = new TreeSet<>();
        Matcher rows = Pattern.compile("(?m)^\\| \\w+Test[^|]*\\| ([0-9][^|(]*)").matcher(text);
        while (rows.find()) {
            addNumbers(rows.group(1).strip(), promises);
        }
        for (int p = 1; p <= 26; p++) {
            Check.is("README.md has a test of promise " + p, promises.contains(p), true);
        }
    }

    /** "1, 2" or "13 to 16". */
    private static void addNumbers(String told, TreeSet<Integer> promises) {
        for (String part : told.split(", ")) {
            String[] ends = part.split(" to ");
            for (int p = Integer.parseInt(ends[0]); p <= Integer.parseInt(ends[ends.length - 1]); p++) {
                promises.add(p);
            }
        }
    }
}
