import java.io.IOException;
import java.lang.reflect.Method;
import java.nio.file.Files;
import java.nio.file.Path;
import java.util.ArrayList;
import java.util.List;
import java.util.Set;
import java.util.TreeSet;
import java.util.regex.Matcher;
import java.util.regex.Pattern;

/** The calls of README.md's example, line by line, answer what stands behind them; its table has every call. */
public final class ReadmeTest {
    private static final Pattern CALL = Pattern.compile("x\\.(\\w+)\\(([-0-9, ]*)\\);\\s*// (-?\\d+)(:.*)?");
    private static final Pattern LAW = Pattern.compile("String law = \"([^\"]*)\";.*");
    private static final int CALLS = 29;

    private ReadmeTest() {
    }

    public static void main(String[] args) throws IOException, ReflectiveOperationException {
        List<String> lines = Files.readAllLines(readme());
        example(lines);
        table(lines);
        Checks.close();
    }

    private static Path readme() {
        Path path = Path.of(System.getProperty("kettlebeats.source")).toAbsolutePath();
        for (int i = 0; i < 4; i++) {
            path = path.getParent();
        }
        return path.resolve("README.md");
    }

    private static void example(List<String> lines) throws ReflectiveOperationException {
        KettleBeats x = new KettleBeats();
        int calls = 0;
        for (String line : lines) {
            Matcher law = LAW.matcher(line);
            Matcher call = CALL.matcher(line);
            if (law.matches()) {
                Checks.feed(x, law.group(1));
            }
            if (call.matches()) {
                Checks.due(line, answer(x, call.group(1), call.group(2)), Long.parseLong(call.group(3)));
                calls++;
            }
        }
        Checks.due("calls in README.md's example", calls, CALLS);
    }

    /** None of the example's calls takes a long. */
    private static long answer(KettleBeats x, String name, String numbers) throws ReflectiveOperationException {
        List<Object> values = new ArrayList<>();
        List<Class<?>> types = new ArrayList<>();
        for (String number : numbers.isEmpty() ? new String[0] : numbers.split(", ")) {
            values.add(Integer.parseInt(number));
            types.add(int.class);
        }
        Method method = KettleBeats.class.getMethod(name, types.toArray(new Class<?>[0]));
        return ((Number) method.invoke(x, values.toArray())).longValue();
    }

    private static void table(List<String> lines) {
        Set<String> named = new TreeSet<>();
        for (String line : lines) {
            if (line.startsWith("| `")) {
                Matcher name = Pattern.compile("`(\\w+)`").matcher(line.substring(0, line.indexOf('|', 1)));
                while (name.find()) {
                    named.add(name.group(1));
                }
            }
        }
        Set<String> face = new TreeSet<>();
        for (Method method : KettleBeats.class.getDeclaredMethods()) {
            if (java.lang.reflect.Modifier.isPublic(method.getModifiers())) {
                face.add(method.getName());
            }
        }
        Checks.due("calls in README.md's table", named.toString(), face.toString());
    }
}
