import java.io.IOException;
import java.lang.reflect.Method;
import java.nio.file.Files;
import java.nio.file.Path;
import java.util.regex.Matcher;
import java.util.regex.Pattern;

/** The calls that README.md shows, in their order on one object, answer as it tells behind them. */
public final class ReadmeTest {
    private static final Pattern CALL = Pattern.compile("x\\.(\\w+)\\(([^)]*)\\);\\s+// (-?\\d+)\\b.*");
    private static final Pattern FEED = Pattern.compile("feed\\(x, \"([^\"]*)\"\\);");

    public static void main(String[] args) throws IOException, ReflectiveOperationException {
        HummingDisc x = new HummingDisc();
        int calls = 0;
        for (String line : Files.readAllLines(Path.of("README.md"))) {
            Matcher call = CALL.matcher(line);
            Matcher feed = FEED.matcher(line);
            if (feed.matches()) Due.feed(x, feed.group(1));
            if (!call.matches()) {
                Due.is("README.md, without an answer: " + line, line.startsWith("x.") ? 1 : 0, 0);
                continue;
            }
            Due.is("README.md: " + line, answer(x, call.group(1), call.group(2)), Long.parseLong(call.group(3)));
            calls++;
        }
        Due.is("calls in README.md", calls > 20 ? 1 : 0, 1);
        Due.end();
    }

    private static int answer(HummingDisc x, String name, String given) throws ReflectiveOperationException {
        String[] numbers = given.isEmpty() ? new String[0] : given.split(", ");
        Class<?>[] types = new Class<?>[numbers.length];
        Object[] values = new Object[numbers.length];
        for (int i = 0; i < numbers.length; i++) {
            types[i] = int.class;
            values[i] = Integer.valueOf(numbers[i]);
        }
        Method call = HummingDisc.class.getMethod(name, types);
        return (Integer) call.invoke(x, values);
    }
}
