import java.lang.reflect.Method;
import java.lang.reflect.Modifier;
import java.nio.file.Files;
import java.nio.file.Path;
import java.util.Arrays;
import java.util.regex.Matcher;
import java.util.regex.Pattern;

/** Runs the example of README.md: behind each of its calls stands first the number that it answers. */
final class ReadmeTest {
    private static final Pattern TEXT = Pattern.compile("String text = \"([^\"]*)\";");
    private static final Pattern CALL = Pattern.compile("(?m)^court\\.(\\w+)\\(([^)]*)\\); *// (-?\\d+)\\b");

    private ReadmeTest() {
    }

    static void run(Due due, String path) throws Exception {
        due.group("README");
        String readme = Files.readString(Path.of(path));
        SnuffCourt x = new SnuffCourt();
        Matcher text = TEXT.matcher(readme);
        due.holds("it tells a text", text.find());
        for (char c : text.group(1).toCharArray()) {
            x.feed(c);
        }
        int calls = 0;
        for (Matcher m = CALL.matcher(readme); m.find(); calls++) {
            due.is(m.group(1) + "(" + m.group(2) + ")", answer(x, m.group(1), m.group(2)), Long.parseLong(m.group(3)));
        }
        due.is("calls without an answer", calls, Pattern.compile("(?m)^court\\.").matcher(readme).results().count());
        due.holds("it has calls", calls > 0);
        for (Method m : SnuffCourt.class.getDeclaredMethods()) {
            due.holds(m.getName() + " is named", !Modifier.isPublic(m.getModifiers())
                    || readme.contains("`" + m.getName() + "`"));
        }
    }

    private static long answer(SnuffCourt x, String name, String numbers) throws Exception {
        Object[] args = numbers.isEmpty() ? new Object[0]
                : Arrays.stream(numbers.split(", *")).map(Integer::valueOf).toArray();
        Class<?>[] types = new Class<?>[args.length];
        Arrays.fill(types, int.class);
        return ((Number) SnuffCourt.class.getMethod(name, types).invoke(x, args)).longValue();
    }
}
