import java.io.IOException;
import java.lang.reflect.Method;
import java.lang.reflect.Modifier;
import java.nio.file.Files;
import java.nio.file.Path;
import java.util.Arrays;
import java.util.HashMap;
import java.util.List;
import java.util.Map;
import java.util.regex.Matcher;
import java.util.regex.Pattern;
import java.util.stream.Stream;

/** README.md says what is so: its example is run line by line, and every call and every test is named in it. */
public final class ReadmeTest {
    private static final Checks c = new Checks("ReadmeTest");
    private static final Pattern TEXT = Pattern.compile("String text = \"([^\"]*)\";.*");
    private static final Pattern CALL = Pattern.compile("x\\.(\\w+)\\(([-0-9, ]*)\\);\\s*// (\\w+): .*");
    private static final int EXAMPLE_CALLS = 10;

    public static void main(String[] args) throws Exception {
        String page = Files.readString(Path.of("README.md"));
        example(page);
        calls(page);
        tests(page);
        c.end();
    }

    private static void example(String page) throws Exception {
        Map<String, Method> methods = new HashMap<>();
        for (Method m : LadderSprings.class.getDeclaredMethods()) {
            methods.put(m.getName(), m);
        }
        String code = page.substring(page.indexOf("```java\n") + 8);
        LadderSprings x = new LadderSprings();
        int made = 0;
        for (String line : code.substring(0, code.indexOf("```")).split("\n")) {
            Matcher text = TEXT.matcher(line);
            Matcher call = CALL.matcher(line);
            if (text.matches()) {
                text.group(1).chars().forEach(x::feed);
            } else if (call.matches()) {
                Object[] numbers = Arrays.stream(call.group(2).split(",")).map(String::strip)
                    .filter(s -> !s.isEmpty()).map(Integer::valueOf).toArray();
                long got = ((Number) methods.get(call.group(1)).invoke(x, numbers)).longValue();
                c.due(line, got, call.group(3).equals("NONE") ? Checks.NONE : Long.parseLong(call.group(3)));
                made++;
            }
        }
        c.due("calls in the example", made, EXAMPLE_CALLS);
    }

    private static void calls(String page) {
        for (Method m : LadderSprings.class.getDeclaredMethods()) {
            if (Modifier.isPublic(m.getModifiers())) {
                c.holds("README.md names " + m.getName(), page.contains("`" + m.getName() + "`"));
            }
        }
    }

    private static void tests(String page) throws IOException {
        try (Stream<Path> files = Files.list(Path.of("src/test/java"))) {
            List<String> names = files.map(f -> f.getFileName().toString().replace(".java", "")).sorted().toList();
            for (String name : names) {
                c.holds("README.md names " + name, page.contains("`" + name + "`"));
            }
            Matcher told = Pattern.compile("\\| `(\\w+Test)` \\|").matcher(page);
            while (told.find()) {
                c.holds("there is a " + told.group(1), names.contains(told.group(1)));
            }
        }
    }
}
