import java.io.IOException;
import java.lang.reflect.Constructor;
import java.lang.reflect.Field;
import java.lang.reflect.Method;
import java.lang.reflect.Modifier;
import java.nio.charset.StandardCharsets;
import java.nio.file.Files;
import java.nio.file.Path;
import java.util.ArrayList;
import java.util.Arrays;
import java.util.List;
import java.util.Set;
import java.util.TreeSet;
import java.util.regex.Matcher;
import java.util.regex.Pattern;
import java.util.stream.Collectors;

/** The public face of the document, and those rules of LANGUAGE.md that can be looked up. */
final class FaceTest {
    private static final Checks CHECKS = new Checks();
    private static final String SOURCE = "src/main/java/NeverHalf.java";
    private static final Pattern METHOD = Pattern.compile("public (int|long) (\\w+)\\(([^)]*)\\);");

    public static void main(String[] args) throws IOException {
        face();
        hidden();
        names();
        source();
        CHECKS.finish();
    }

    private static String shape(Method m) {
        return m.getReturnType() + " " + m.getName() + Arrays.stream(m.getParameterTypes()).map(Class::getName)
                .collect(Collectors.toList());
    }

    private static void face() throws IOException {
        String document = Files.readString(Path.of("../shared/DOC.md"), StandardCharsets.UTF_8);
        Set<String> due = new TreeSet<>();
        Matcher m = METHOD.matcher(document);
        while (m.find()) {
            List<String> types = new ArrayList<>();
            for (String parameter : m.group(3).isEmpty() ? new String[0] : m.group(3).split(", ")) {
                types.add(parameter.split(" ")[0]);
            }
            due.add(m.group(1) + " " + m.group(2) + types);
        }
        Set<String> got = new TreeSet<>();
        for (Method method : NeverHalf.class.getDeclaredMethods()) {
            if (Modifier.isPublic(method.getModifiers())) {
                got.add(shape(method));
            }
        }
        CHECKS.due("calls in the document", 44, due.size());
        CHECKS.holds("the calls are those of the document: " + due + " " + got, due.equals(got));
        CHECKS.holds("public", Modifier.isPublic(NeverHalf.class.getModifiers()));
        CHECKS.holds("final", Modifier.isFinal(NeverHalf.class.getModifiers()));
        CHECKS.due("NONE", -1, NeverHalf.NONE);
    }

    private static void hidden() {
        for (Field f : NeverHalf.class.getDeclaredFields()) {
            boolean open = f.getName().equals("NONE");
            CHECKS.holds(f.getName(), open ? Modifier.isPublic(f.getModifiers()) : Modifier.isPrivate(f.getModifiers()));
        }
        for (Method m : NeverHalf.class.getDeclaredMethods()) {
            CHECKS.holds(m.getName(), Modifier.isPublic(m.getModifiers()) || Modifier.isPrivate(m.getModifiers()));
        }
        Constructor<?>[] constructors = NeverHalf.class.getDeclaredConstructors();
        CHECKS.due("constructors", 1, constructors.length);
        CHECKS.holds("a public one", Modifier.isPublic(constructors[0].getModifiers()));
        CHECKS.holds("twelve classes at most", NeverHalf.class.getDeclaredClasses().length < 12);
        for (Class<?> c : NeverHalf.class.getDeclaredClasses()) {
            CHECKS.holds(c.getName() + " is static", Modifier.isStatic(c.getModifiers()));
            CHECKS.holds(c.getName() + " is not public", !Modifier.isPublic(c.getModifiers()));
            for (Constructor<?> made : c.getDeclaredConstructors()) {
                CHECKS.due(c.getName() + " is handed nothing of another object", 0, made.getParameterCount());
            }
        }
    }

    private static void names() {
        Set<String> open = new TreeSet<>();
        for (Method m : NeverHalf.class.getMethods()) {
            open.add(m.getName());
        }
        List<Class<?>> classes = new ArrayList<>(List.of(NeverHalf.class.getDeclaredClasses()));
        classes.add(NeverHalf.class);
        for (Class<?> c : classes) {
            long fields = 0;
            for (Field f : c.getDeclaredFields()) {
                boolean constant = Modifier.isStatic(f.getModifiers());
                CHECKS.holds(f.getName() + " is final", !constant || Modifier.isFinal(f.getModifiers()));
                fields += constant ? 0 : 1;
            }
            CHECKS.holds(c.getName() + " has at most 20 fields", fields <= 20);
            for (Method m : c.getDeclaredMethods()) {
                CHECKS.holds(m.getName() + " has at most seven parameters", m.getParameterCount() <= 7);
                boolean face = c == NeverHalf.class && Modifier.isPublic(m.getModifiers());
                CHECKS.holds(m.getName() + " is not a name of the face", face || !open.contains(m.getName()));
            }
        }
    }

    private static void source() throws IOException {
        String text = Files.readString(Path.of(SOURCE), StandardCharsets.UTF_8);
        CHECKS.holds("signs 1 to 127", text.chars().allMatch(c -> c == 10 || c >= 32 && c < 127));
        String code = text.replaceAll("(?s)/\\*.*?\\*/", "").replaceAll("//[^\n]*", "").replaceAll("\"[^\"\n]*\"", "\"\"");
        String[] words = {"throw", "throws", "try", "catch", "finally", "synchronized", "assert", "package", "Exact",
            "double", "float", "this", "volatile", "native", "protected", "var", "yield", "goto", "System.out", "Object",
            "equals", "hashCode", "toString"};
        for (String word : words) {
            CHECKS.holds("no " + word, !Pattern.compile("\\b" + Pattern.quote(word) + "\\b").matcher(code).find());
        }
        CHECKS.holds("no lambda", !code.contains("->"));
        CHECKS.holds("no method reference", !code.contains("::"));
        Matcher imports = Pattern.compile("import ([^;]+);").matcher(code);
        while (imports.find()) {
            CHECKS.holds(imports.group(1), imports.group(1).equals("java.util.Arrays"));
        }
        Matcher calls = Pattern.compile("\\b(Arrays|System|Integer|Long|Math)\\.(\\w+)").matcher(code);
        Set<String> allowed = Set.of("Arrays.fill", "System.arraycopy", "Integer.bitCount", "Math.min", "Math.max");
        while (calls.find()) {
            CHECKS.holds(calls.group(), allowed.contains(calls.group()));
        }
        CHECKS.holds("lines of 120 at most", text.lines().allMatch(l -> l.length() <= 120));
    }
}
