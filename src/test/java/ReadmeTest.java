import java.io.IOException;
import java.lang.reflect.InvocationTargetException;
import java.lang.reflect.Method;
import java.lang.reflect.Modifier;
import java.nio.file.Files;
import java.nio.file.Path;
import java.util.Arrays;
import java.util.List;
import java.util.Set;
import java.util.TreeSet;
import java.util.regex.Matcher;
import java.util.regex.Pattern;
import java.util.stream.Collectors;

/** The example in README.md answers what stands behind its calls, and has each call of the face. */
public final class ReadmeTest {
    private static final Pattern CALL =
            Pattern.compile("finder\\.(\\w+)\\(([-\\d, ]*)\\);\\s+// (-?\\w+): .*");
    private static final Check check = new Check();

    public static void main(String[] args) throws IOException, IllegalAccessException {
        WayFinder finder = new WayFinder();
        Set<String> called = new TreeSet<>();
        for (String line : example()) {
            Matcher call = CALL.matcher(line);
            if (call.matches()) {
                called.add(call.group(1));
                check.due(line, call.group(3), answerOf(finder, call.group(1), call.group(2)));
            } else {
                check.due("a line that is no call: " + line, "true",
                        "" + (line.isEmpty() || line.equals("WayFinder finder = new WayFinder();")));
            }
        }
        check.due("calls in the example", face().toString(), called.toString());
        check.end();
    }

    private static List<String> example() throws IOException {
        List<String> lines = Files.readAllLines(Path.of("README.md"));
        int begin = lines.indexOf("```java") + 1;
        List<String> behind = lines.subList(begin, lines.size());
        return behind.subList(0, behind.indexOf("```"));
    }

    private static Set<String> face() {
        return Arrays.stream(WayFinder.class.getDeclaredMethods())
                .filter(method -> Modifier.isPublic(method.getModifiers()))
                .map(Method::getName).collect(Collectors.toCollection(TreeSet::new));
    }

    private static String answerOf(WayFinder finder, String name, String list)
            throws IllegalAccessException {
        Object[] numbers = list.isEmpty() ? new Object[0]
                : Arrays.stream(list.split(", ")).map(Integer::valueOf).toArray();
        try {
            return methodOf(name, numbers.length).invoke(finder, numbers).toString();
        } catch (InvocationTargetException e) {
            return e.getCause().getClass().getSimpleName();
        }
    }

    private static Method methodOf(String name, int numbers) {
        Class<?>[] kinds = new Class<?>[numbers];
        Arrays.fill(kinds, int.class);
        try {
            return WayFinder.class.getMethod(name, kinds);
        } catch (NoSuchMethodException e) {
            throw new IllegalStateException("README.md calls what is not there: " + name, e);
        }
    }
}
