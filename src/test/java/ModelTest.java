import java.lang.reflect.Method;
import java.nio.charset.StandardCharsets;
import java.util.ArrayList;
import java.util.Arrays;
import java.util.Comparator;
import java.util.List;
import java.util.Random;

/** Random runs of calls, answered by NeverHalf and by Model; the seeds are fixed. */
final class ModelTest {
    private static final int RUNS = 1500;
    private static final int CALLS = 200;
    private static final String[] WORDS = {"family", "flour", "bread", "wish", "oven", "quarrel", "keep", "fuel", ";",
        "0", "1", "2", "31", "61", "99", "100", "999", "1000", "0000", "bake", "Q", "\n", " ", "\t", "\u00e9", "=", ""};
    /** Calls whose model takes long are made more rarely. */
    private static final List<String> DEAR = List.of("better", "gap", "ahead", "enough", "parted", "together",
            "served", "stable", "stones", "fires", "ways");

    private final Random random;
    private final List<String> log = new ArrayList<>();
    private final NeverHalf program = new NeverHalf();
    private final Model model = new Model();
    private int families;
    private int wrong;

    private ModelTest(long seed) {
        random = new Random(seed);
    }

    public static void main(String[] args) throws ReflectiveOperationException {
        Method[] methods = NeverHalf.class.getDeclaredMethods();
        Method[] open = Arrays.stream(methods).filter(m -> java.lang.reflect.Modifier.isPublic(m.getModifiers()))
                .sorted(Comparator.comparing(Method::getName)).toArray(Method[]::new);
        int wrong = 0;
        int runs = args.length > 0 ? Integer.parseInt(args[0]) : RUNS;
        for (int seed = 0; seed < runs && wrong < 5; seed++) {
            ModelTest run = new ModelTest(seed);
            run.go(open);
            wrong += run.wrong;
        }
        System.out.println(runs + " runs, " + wrong + " wrong");
        if (wrong != 0) {
            System.exit(1);
        }
    }

    private void go(Method[] open) throws ReflectiveOperationException {
        tellVillage();
        for (int i = 0; i < CALLS && wrong == 0; i++) {
            Method m = open[random.nextInt(open.length)];
            if (DEAR.contains(m.getName()) && random.nextInt(4) != 0) {
                continue;
            }
            if (m.getName().equals("feed") || m.getName().equals("village")) {
                if (random.nextInt(6) == 0) {
                    tellVillage();
                }
                continue;
            }
            if (m.getName().equals("restore") && random.nextInt(3) != 0) {
                continue;
            }
            if (m.getName().equals("numbers") && random.nextInt(2) != 0) {
                tellRow();
                continue;
            }
            long answer = call(m, arguments(m));
            boolean refused = answer < NeverHalf.NONE && random.nextInt(4) == 0;
            if (refused || m.getName().equals("restore") || m.getName().equals("marry") || i == CALLS - 1) {
                lookAround();
            }
        }
    }

    /** All that can be seen of the village as it stands. */
    private void lookAround() throws ReflectiveOperationException {
        for (int what = 0; what < 14; what++) {
            call("count", what);
        }
        for (int f = 0; f < program.count(0); f++) {
            for (int what = 0; what < 15; what++) {
                call("family", f, what);
            }
            for (int g = 0; g < program.count(0); g++) {
                call("quarrel", f, g);
                call("owed", f, g);
            }
        }
    }

    private long call(Method m, Object[] arguments) throws ReflectiveOperationException {
        log.add(m.getName() + Arrays.toString(arguments));
        long got = ((Number) m.invoke(program, arguments)).longValue();
        Method twin = Model.class.getMethod(m.getName(), m.getParameterTypes());
        long want = ((Number) twin.invoke(model, arguments)).longValue();
        if (got != want) {
            wrong++;
            System.out.println(String.join("\n", log));
            System.out.println("answered " + got + ", the model says " + want);
        }
        return got;
    }

    private void call(String name, Object... arguments) throws ReflectiveOperationException {
        for (Method m : NeverHalf.class.getMethods()) {
            if (m.getName().equals(name)) {
                call(m, arguments);
            }
        }
    }

    private Object[] arguments(Method m) {
        Class<?>[] types = m.getParameterTypes();
        Object[] all = new Object[types.length];
        for (int i = 0; i < all.length; i++) {
            all[i] = types[i] == long.class ? (Object) aLong() : (Object) anInt(m.getName(), i);
        }
        return all;
    }

    private Long aLong() {
        return random.nextInt(3) == 0 ? random.nextLong() : (long) random.nextInt(1 << 1 + random.nextInt(13)) - 2;
    }

    private Integer anInt(String name, int place) {
        if (random.nextInt(40) == 0) {
            int[] edges = {Integer.MIN_VALUE, Integer.MAX_VALUE, -1, -2, 1023, 1 << 10, 1900, 1901, 2000, 2001, 999,
                1000, 99, 100, 40, 41, 30, 31, 16, 17, families, 1 << families};
            return edges[random.nextInt(edges.length)];
        }
        switch (name) {
            case "canBake", "fires", "ways", "upTo":
                return random.nextInt(random.nextBoolean() ? 40 : 300);
            case "fills":
                return random.nextInt((1 << families) + 1);
            case "leaves", "fireWishes":
                return place == 1 ? aGroup() : small(2);
            case "group", "stable":
                return place == 1 ? small(4) - 1 : small(2);
            case "drawn":
                return place == 0 ? random.nextInt() : small(30);
            case "wish":
                return place == 1 ? (random.nextInt(3) == 0 ? random.nextInt(101) : random.nextInt(8)) : small(families);
            case "mill", "lend":
                return place == (name.equals("mill") ? 1 : 2) ? (random.nextInt(4) == 0 ? small(1000) : small(30))
                        : small(families);
            case "ahead":
                return place == 0 ? small(5) : random.nextBoolean() ? small(3) : 10 + small(7);
            case "count", "family":
                return random.nextInt(16) - (place == 0 && name.equals("family") ? random.nextInt(16) : 0);
            case "enough":
                return small(5);
            case "owed", "quarrel", "fallOut", "marry", "lasts", "together":
                return name.equals("marry") && random.nextInt(4) != 0 ? -1 : small(families);
            default:
                return small(4) - random.nextInt(2);
        }
    }

    private int small(int most) {
        return random.nextInt(most + 1);
    }

    /** A set that is a group of some oven, if there is one. */
    private int aGroup() {
        int n = program.group(0, -1);
        return n > 0 && random.nextInt(4) != 0 ? program.group(0, random.nextInt(n)) : random.nextInt(1 << families);
    }

    private void tellRow() throws ReflectiveOperationException {
        int row = small(3);
        boolean fires = random.nextBoolean();
        int n = fires ? small(5) : program.count(0);
        call("numbers", row, fires ? 1 + small(2) : small(3), n);
        for (int i = 0; i < n; i++) {
            int o = small(1);
            int groups = program.group(o, -1);
            long told = groups > 0 ? 1024L * o + program.group(o, random.nextInt(groups)) : random.nextInt(3000);
            call("write", row, i, fires ? told : (long) random.nextInt(8) - random.nextInt(2) * random.nextInt(2));
        }
    }

    private void tellVillage() throws ReflectiveOperationException {
        StringBuilder text = new StringBuilder();
        families = 1 + random.nextInt(random.nextInt(8) == 0 ? 9 : 6);
        int wishes = 1 + random.nextInt(random.nextBoolean() ? 4 : 20);
        if (random.nextBoolean()) {
            text.append("keep ").append(1 + small(4)).append(";");
        }
        for (int f = 0; f < families; f++) {
            tellFamily(text, wishes);
        }
        int ovens = random.nextInt(8) == 0 ? small(1) : 1 + small(2);
        for (int o = 0; o < ovens; o++) {
            text.append("oven ").append(1 + small(random.nextInt(4) == 0 ? 59 : 3 * wishes)).append(";");
        }
        for (int i = small(3); i > 0 && families > 1; i--) {
            int f = small(families - 1);
            text.append("quarrel ").append(f).append(" ").append((f + 1 + small(families - 2)) % families).append(";\n");
        }
        if (random.nextBoolean()) {
            text.append("fuel ").append(small(random.nextBoolean() ? 999 : 5)).append(";");
        }
        if (random.nextInt(3) == 0) {
            spoil(text);
        }
        byte[] bytes = text.toString().getBytes(StandardCharsets.ISO_8859_1);
        for (int at = 0; at < bytes.length; at += 20) {
            call("feed", Checks.four(bytes, at), Checks.four(bytes, at + 4), Checks.four(bytes, at + 8),
                    Checks.four(bytes, at + 12), Checks.four(bytes, at + 16));
        }
        call("village", bytes.length - (random.nextInt(8) == 0 ? small(bytes.length) : 0));
        call("fault", 0);
        call("fault", 1);
        lookAround();
        families = Math.max(1, program.count(0));
    }

    private void tellFamily(StringBuilder text, int wishes) {
        text.append("family ").append(small(random.nextInt(4) == 0 ? 30 : 5));
        if (random.nextBoolean()) {
            text.append(" flour ").append(small(random.nextBoolean() ? 20 : 999));
        }
        if (random.nextBoolean()) {
            text.append(" bread");
            for (int n = 1 + random.nextInt(random.nextInt(9) == 0 ? 5 : 2); n > 0; n--) {
                text.append(" ").append(small(random.nextInt(4) == 0 ? 99 : 9));
            }
        }
        if (random.nextInt(6) != 0) {
            text.append(" wish ").append(small(wishes));
        }
        text.append(";");
    }

    /** Puts a token in, takes a piece out, or puts another sign in its place. */
    private void spoil(StringBuilder text) {
        for (int i = small(2); i >= 0; i--) {
            int at = small(text.length() - 1);
            switch (random.nextInt(3)) {
                case 0:
                    text.insert(at, WORDS[random.nextInt(WORDS.length)]);
                    break;
                case 1:
                    text.delete(at, Math.min(text.length() - 1, at + 1 + small(4)));
                    break;
                default:
                    text.setCharAt(at, "01;a 9\n".charAt(small(6)));
            }
        }
    }
}
