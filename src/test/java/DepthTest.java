import java.io.IOException;
import java.nio.charset.StandardCharsets;
import java.nio.file.Files;
import java.nio.file.Path;
import java.util.ArrayList;
import java.util.LinkedHashMap;
import java.util.List;
import java.util.Map;
import java.util.Set;
import java.util.TreeSet;
import java.util.regex.Matcher;
import java.util.regex.Pattern;
import java.util.stream.Collectors;

/** Rule 11 of LANGUAGE.md, as far as the source's lines tell: methods stay short, calls go eight deep at most. */
final class DepthTest {
    private static final Checks CHECKS = new Checks();
    private static final Path SOURCE = Path.of("src/main/java/NeverHalf.java");
    private static final int MOST_LINES = 60;
    private static final int MOST_DEEP = 8;
    private static final Pattern CLASS = Pattern.compile(" class (\\w+) \\{$");
    private static final Pattern METHOD = Pattern.compile("^ {4,8}(?:[\\w\\[\\]]+ )*(\\w+)\\([^;]*\\) \\{$");
    private static final Pattern CALL = Pattern.compile("(\\.)?\\b(\\w+)\\(");

    /** By class and name, the lines of each method. */
    private final Map<String, StringBuilder> methods = new LinkedHashMap<>();

    public static void main(String[] args) throws IOException {
        DepthTest test = new DepthTest();
        test.read(Files.readAllLines(SOURCE, StandardCharsets.UTF_8));
        CHECKS.holds("methods are found: " + test.methods.size(), test.methods.size() > 100);
        for (String method : test.methods.keySet()) {
            long lines = test.methods.get(method).chars().filter(c -> c == '\n').count();
            CHECKS.holds(method + " has " + lines + " lines", lines <= MOST_LINES);
            List<String> path = test.longest(method, new TreeSet<>());
            CHECKS.holds("calls go deep: " + path, path.size() <= MOST_DEEP);
        }
        CHECKS.finish();
    }

    private void read(List<String> lines) {
        String owner = "";
        String method = "";
        for (String line : lines) {
            Matcher inside = CLASS.matcher(line);
            Matcher begun = METHOD.matcher(line);
            if (inside.find()) {
                owner = inside.group(1);
            } else if (begun.find()) {
                method = owner + "." + begun.group(1);
                methods.put(method, new StringBuilder());
            } else if (!method.isEmpty()) {
                methods.get(method).append(line.replaceAll("\"[^\"]*\"|//.*", "")).append('\n');
                boolean ends = line.equals(owner.equals("NeverHalf") ? "    }" : "        }");
                method = ends ? "" : method;
            }
        }
    }

    private Set<String> called(String method) {
        String owner = method.substring(0, method.indexOf('.'));
        Set<String> all = new TreeSet<>();
        Matcher call = CALL.matcher(methods.get(method));
        while (call.find()) {
            boolean ofAnother = call.group(1) != null;
            String name = "." + call.group(2);
            all.addAll(methods.keySet().stream().filter(m -> m.endsWith(name) && ofAnother != m.equals(owner + name))
                    .collect(Collectors.toSet()));
        }
        return all;
    }

    /** A method that calls itself is counted once. */
    private List<String> longest(String method, Set<String> open) {
        Set<String> now = new TreeSet<>(open);
        now.add(method);
        List<String> best = List.of();
        for (String next : called(method)) {
            if (!now.contains(next)) {
                List<String> path = longest(next, now);
                best = path.size() > best.size() ? path : best;
            }
        }
        List<String> all = new ArrayList<>(List.of(method));
        all.addAll(best);
        return all;
    }
}
