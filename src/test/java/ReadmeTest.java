import java.io.IOException;
import java.lang.reflect.Method;
import java.nio.charset.StandardCharsets;
import java.nio.file.Files;
import java.nio.file.Path;
import java.util.Arrays;
import java.util.List;
import java.util.Set;
import java.util.TreeSet;
import java.util.regex.Matcher;
import java.util.regex.Pattern;
import java.util.stream.Collectors;
import java.util.stream.Stream;

/** README.md: its calls are made in their order and must answer what stands behind them; it names every test. */
final class ReadmeTest {
    private static final Checks CHECKS = new Checks();
    private static final Pattern CALL = Pattern.compile("x\\.(\\w+)\\(([^)]*)\\);\\s+// (-?\\d+)(: .*)?");
    private static final Pattern TEST = Pattern.compile("(?m)^\\| `(\\w+Test)` \\|");
    private static final Pattern CODE = Pattern.compile("(?m)^\\| (-\\d+)[^|]*\\|");

    public static void main(String[] args) throws IOException, ReflectiveOperationException {
        String page = Files.readString(Path.of("README.md"), StandardCharsets.UTF_8);
        calls(page);
        tests(page);
        codes(page);
        CHECKS.holds("it says how to run the tests", page.contains("\n    .ci/run\n"));
        CHECKS.finish();
    }

    private static void calls(String page) throws ReflectiveOperationException {
        NeverHalf x = null;
        boolean inside = false;
        int made = 0;
        for (String line : page.split("\n")) {
            if (line.startsWith("```")) {
                inside = line.equals("```java");
            } else if (inside && line.equals("NeverHalf x = new NeverHalf();")) {
                x = new NeverHalf();
            } else if (inside && !line.startsWith("//")) {
                call(x, line);
                made++;
            }
        }
        CHECKS.holds("calls are found: " + made, made > 30);
    }

    private static void call(NeverHalf x, String line) throws ReflectiveOperationException {
        Matcher m = CALL.matcher(line);
        if (x == null || !m.matches()) {
            CHECKS.holds("a call with its answer: " + line, false);
            return;
        }
        List<String> told = m.group(2).isEmpty() ? List.of() : Arrays.asList(m.group(2).split(", "));
        for (Method method : NeverHalf.class.getDeclaredMethods()) {
            if (method.getName().equals(m.group(1)) && method.getParameterCount() == told.size()) {
                long got = ((Number) method.invoke(x, values(method, told))).longValue();
                CHECKS.due(line, Long.parseLong(m.group(3)), got);
                return;
            }
        }
        CHECKS.holds("a call of the face: " + line, false);
    }

    private static Object[] values(Method method, List<String> told) {
        Object[] all = new Object[told.size()];
        for (int i = 0; i < all.length; i++) {
            long value = Long.decode(told.get(i));
            all[i] = method.getParameterTypes()[i] == long.class ? (Object) value : (Object) (int) value;
        }
        return all;
    }

    private static void tests(String page) throws IOException {
        try (Stream<Path> files = Files.list(Path.of("src/test/java"))) {
            Set<String> there = files.map(f -> f.getFileName().toString()).filter(n -> n.endsWith("Test.java"))
                    .map(n -> n.substring(0, n.length() - 5)).collect(Collectors.toCollection(TreeSet::new));
            Set<String> named = new TreeSet<>();
            Matcher m = TEST.matcher(page);
            while (m.find()) {
                named.add(m.group(1));
            }
            CHECKS.holds("the tests: " + there + " are those it names: " + named, there.equals(named));
        }
    }

    private static void codes(String page) {
        Set<Integer> named = new TreeSet<>();
        Matcher m = CODE.matcher(page);
        while (m.find()) {
            named.add(Integer.parseInt(m.group(1)));
        }
        Set<Integer> due = new TreeSet<>(List.of(-2, -3, -4, -5, -6, -7, -11, -12, -13, -31));
        CHECKS.holds("codes it names: " + named, named.equals(due));
    }
}
