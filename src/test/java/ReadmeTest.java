import java.io.IOException;
import java.lang.reflect.Method;
import java.lang.reflect.Modifier;
import java.nio.file.Files;
import java.nio.file.Path;
import java.util.List;
import java.util.regex.Matcher;
import java.util.regex.Pattern;
import java.util.stream.Collectors;
import java.util.stream.IntStream;
import java.util.stream.Stream;

/** README.md says how to use the class and how to run its tests: its example is run, line by line. */
public final class ReadmeTest {
    private static final Pattern EXAMPLE = Pattern.compile("(?s)```java\n(.*?)```");
    private static final Pattern NEW = Pattern.compile("SnowRoad road = new SnowRoad\\(\\);");
    private static final Pattern TEXT = Pattern.compile("for \\(char c : \"([^\"]*)\"\\.toCharArray\\(\\)\\) road\\.type\\((\\d), c\\); +// .+");
    private static final Pattern CALL = Pattern.compile("road\\.(\\w+)\\(([-\\d, ]*)\\); +// (-?\\d+): .+");
    private static int wrong = 0;

    public static void main(String[] args) throws Exception {
        String page = Files.readString(Path.of("README.md"));
        example(page);
        allCallsAreNamed(page);
        allTestsAreNamed(page);
        must(page.contains(".ci/run"), "it does not say how the tests are run");
        System.out.println(wrong == 0 ? "README.md says what is so" : wrong + " are wrong");
        if (wrong != 0) {
            System.exit(1);
        }
    }

    private static void must(boolean so, String fault) {
        if (!so) {
            wrong++;
            System.out.println("README.md: " + fault);
        }
    }

    private static void example(String page) throws ReflectiveOperationException {
        Matcher found = EXAMPLE.matcher(page);
        if (!found.find()) {
            must(false, "there is no example");
            return;
        }
        SnowRoad road = new SnowRoad();
        int calls = 0;
        for (String line : found.group(1).split("\n")) {
            Matcher text = TEXT.matcher(line);
            Matcher call = CALL.matcher(line);
            if (text.matches()) {
                text.group(1).chars().forEach(c -> road.type(Integer.parseInt(text.group(2)), c));
            } else if (call.matches()) {
                calls++;
                long answer = answer(road, call.group(1), call.group(2));
                must(answer == Long.parseLong(call.group(3)), line + " (it answered " + answer + ")");
            } else {
                must(NEW.matcher(line).matches(), "this cannot be run: " + line);
            }
        }
        must(calls > 0, "the example asks nothing");
    }

    private static long answer(SnowRoad road, String name, String numbers) throws ReflectiveOperationException {
        Object[] with = numbers.isEmpty() ? new Object[0] : Stream.of(numbers.split(", ")).map(Integer::valueOf).toArray();
        Class<?>[] types = IntStream.range(0, with.length).mapToObj(i -> int.class).toArray(Class<?>[]::new);
        return ((Number) SnowRoad.class.getMethod(name, types).invoke(road, with)).longValue();
    }

    private static void allCallsAreNamed(String page) {
        String table = page.substring(Math.max(0, page.indexOf("### The calls")));
        for (Method m : SnowRoad.class.getDeclaredMethods()) {
            if (Modifier.isPublic(m.getModifiers())) {
                Matcher named = Pattern.compile("`" + m.getName() + "\\(([^)]*)\\)`").matcher(table);
                boolean is = named.find();
                must(is, m.getName() + " is not named");
                int told = !is || named.group(1).isEmpty() ? 0 : named.group(1).split(", ").length;
                must(!is || told == m.getParameterCount(), m.getName() + " takes " + m.getParameterCount() + " numbers");
            }
        }
    }

    private static void allTestsAreNamed(String page) throws IOException {
        List<String> tests;
        try (Stream<Path> files = Files.list(Path.of("src/test/java"))) {
            tests = files.map(f -> f.getFileName().toString().replace(".java", "")).collect(Collectors.toList());
        }
        for (String test : tests) {
            must(page.contains("`" + test + "`"), test + " is not named");
        }
        Matcher named = Pattern.compile("`(\\w+Test)`").matcher(page);
        while (named.find()) {
            must(tests.contains(named.group(1)), "there is no " + named.group(1));
        }
    }
}
