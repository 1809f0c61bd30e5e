import java.lang.reflect.InvocationTargetException;
import java.lang.reflect.Method;
import java.util.Arrays;
import java.util.List;
import java.util.function.Supplier;

/** Objects that the same calls have made: a call on one of them shows what it changes. */
final class Twins {
    private final Checks checks;
    private final Supplier<NeverHalf> make;

    Twins(Checks checks, Supplier<NeverHalf> make) {
        this.checks = checks;
        this.make = make;
    }

    Twins(Checks checks, String text) {
        this(checks, () -> Checks.told(text));
    }

    /** A village in which nothing is as it is at first, with what the tests of refused calls need. */
    static Twins rich(Checks checks) {
        return new Twins(checks, Twins::richVillage);
    }

    /**
     * Four families, 0 and 2 at odds, wishes 5 7 9 0, flour 49 67 82 50, a ring of debts (0 owes 2, 2 owes 1,
     * 1 owes 0); ovens of 12, 9, 16; day 1; row 0: loaves for oven 0, row 1: three fires, row 2: forty
     * numbers of 8 bits, row 3 is missing; image 0, no image 1; a text on the tape; the last one had a fault.
     */
    static NeverHalf richVillage() {
        NeverHalf x = Checks.told("keep 4;fuel 37;family 5 flour 60 bread 1 2 3 4 wish 5;"
                + "family 7 flour 70 bread 9 8 7 6 wish 7;family 2 flour 80 bread 0 0 0 9 wish 9;family 6;"
                + "oven 12;oven 9;oven 16;quarrel 0 2;");
        x.lend(0, 1, 10);
        x.lend(1, 2, 6);
        x.lend(2, 0, 4);
        x.fireWishes(0, 3);
        x.image(0);
        x.wish(0, 5);
        x.wish(1, 7);
        x.day();
        Checks.row(x, 0, 5, 7, 0, 0);
        x.numbers(1, 1, 3);
        x.write(1, 0, 1024 + 4);
        x.write(1, 1, 3);
        x.write(1, 2, 3);
        x.numbers(2, 0, 40);
        x.write(2, 39, 9);
        Checks.tell(x, "family 31;");
        Checks.feed(x, "oven 3;family 9 flour 8 ".getBytes());
        return x;
    }

    /** The call answers a code and changes nothing. */
    void refused(long code, String call, long... arguments) {
        if (code >= NeverHalf.NONE) {
            throw new IllegalArgumentException("no code of a refused call: " + code);
        }
        asks(code, call, arguments);
    }

    /** The call answers so and changes nothing. */
    void asks(long want, String call, long... arguments) {
        NeverHalf one = make.get();
        answer(want, one, call, arguments);
        like(call + Arrays.toString(arguments) + " changes", Look.through(make.get()), Look.through(one));
    }

    /** The call answers so. */
    void answers(long want, String call, long... arguments) {
        answer(want, make.get(), call, arguments);
    }

    private void answer(long want, NeverHalf x, String call, long... arguments) {
        checks.due(call + Arrays.toString(arguments), want, invoke(x, call, arguments));
    }

    private void like(String name, List<String> want, List<String> got) {
        checks.due(name + " how many can be seen", want.size(), got.size());
        for (int i = 0; i < Math.min(want.size(), got.size()); i++) {
            if (!want.get(i).equals(got.get(i))) {
                checks.holds(name + " " + want.get(i) + " to " + got.get(i), false);
                return;
            }
        }
        checks.holds(name + " nothing", true);
    }

    private static long invoke(NeverHalf x, String call, long... arguments) {
        try {
            Method method = named(call);
            Class<?>[] types = method.getParameterTypes();
            Object[] all = new Object[types.length];
            for (int i = 0; i < types.length; i++) {
                all[i] = types[i] == long.class ? (Object) arguments[i] : (Object) Math.toIntExact(arguments[i]);
            }
            return ((Number) method.invoke(x, all)).longValue();
        } catch (IllegalAccessException | InvocationTargetException e) {
            throw new IllegalStateException(call + Arrays.toString(arguments), e);
        }
    }

    private static Method named(String call) {
        for (Method method : NeverHalf.class.getMethods()) {
            if (method.getName().equals(call)) {
                return method;
            }
        }
        throw new IllegalArgumentException(call);
    }
}
