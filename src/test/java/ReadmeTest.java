import java.lang.reflect.Method;
import java.nio.charset.StandardCharsets;
import java.nio.file.Files;
import java.nio.file.Path;
import java.util.ArrayList;
import java.util.List;
import java.util.Map;
import java.util.TreeMap;
import java.util.regex.Matcher;
import java.util.regex.Pattern;

/** What README.md says of the calls: its example answers so, and its tables name what the document names. */
public final class ReadmeTest {
    private static final int CALLS = 40;
    private static final Pattern EXAMPLE = Pattern.compile("(?m)^show\\.(\\w+)\\(([^)]*)\\); +// (-?\\d+)");
    private static final Pattern ROW = Pattern.compile("(?m)^\\| `(\\w+)\\(([^)]*)\\)` \\|.*\\|([^|]*)\\|$");
    private static final Pattern PROMISE = Pattern.compile("(?m)^`\\w+ (\\w+)\\(([^)]*)\\)`: (.*)$");
    private static final String ERROR = "(BEYOND|NONE|STATE|FULL|KIND|PARTED)\\b";
    private static final Pattern NAMED_IN_README = Pattern.compile("\\b" + ERROR);
    private static final Pattern NAMED_IN_DOCUMENT = Pattern.compile("[.;] " + ERROR);

    public static void main(String[] args) throws Exception {
        String readme = read("README.md");
        example(readme);
        Map<String, String> tables = new TreeMap<>();
        Matcher row = ROW.matcher(readme);
        while (row.find()) {
            tables.put(row.group(1) + "(" + row.group(2) + ")", errors(NAMED_IN_README, row.group(3)));
        }
        Checks.due("the tables' calls", tables.size(), CALLS);
        Matcher promise = PROMISE.matcher(read(args.length > 1 ? args[1] : "../shared/DOC.md"));
        int promises = 0;
        while (promise.find()) {
            String call = promise.group(1) + "(" + promise.group(2).replaceAll("(int|long) ", "") + ")";
            String due = errors(NAMED_IN_DOCUMENT, promise.group(3));
            Checks.holds(call + ": README.md says " + tables.get(call) + ", the document " + due, due.equals(tables.get(call)));
            promises++;
        }
        Checks.due("the document's calls", promises, CALLS);
        Checks.end();
    }

    private static String read(String path) throws Exception {
        return new String(Files.readAllBytes(Path.of(path)), StandardCharsets.UTF_8);
    }

    private static void example(String readme) throws Exception {
        OffOnTheSecond show = new OffOnTheSecond();
        Matcher call = EXAMPLE.matcher(readme);
        int asked = 0;
        while (call.find()) {
            Checks.due("README.md: " + call.group(), ask(show, call.group(1), call.group(2)), Long.parseLong(call.group(3)));
            asked++;
        }
        Checks.due("the example's calls", asked, readme.split("\nshow\\.", -1).length - 1);
    }

    private static long ask(OffOnTheSecond show, String name, String written) throws Exception {
        String[] numbers = written.isEmpty() ? new String[0] : written.split(", ");
        for (Method method : OffOnTheSecond.class.getMethods()) {
            if (method.getName().equals(name) && method.getParameterCount() == numbers.length) {
                Object[] values = new Object[numbers.length];
                for (int i = 0; i < values.length; i++) {
                    long v = Long.decode(numbers[i].replace("L", ""));
                    if (method.getParameterTypes()[i] == long.class) {
                        values[i] = v;
                    } else {
                        values[i] = Math.toIntExact(v);
                    }
                }
                return ((Number) method.invoke(show, values)).longValue();
            }
        }
        throw new IllegalArgumentException(name);
    }

    /** The ERRORS in their order, without what stands in brackets. */
    private static String errors(Pattern named, String text) {
        List<String> errors = new ArrayList<>();
        Matcher error = named.matcher(text.replaceAll("\\([^)]*\\)", ""));
        while (error.find()) {
            errors.add(error.group(1));
        }
        return errors.toString();
    }
}
