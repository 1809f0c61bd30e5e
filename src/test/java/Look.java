import java.util.ArrayList;
import java.util.List;

/** All that can be seen of an object, an entry for each call that was made to see it. */
final class Look {
    /** An object answers 512 calls; what is left of them is for making it and for the call in question. */
    private static final int MOST_CALLS = 420;
    private static final int MANY_FAMILIES = 5;
    private static final long ALL_BITS = 0x123456789abcdef0L;

    private final NeverHalf x;
    private final List<String> seen = new ArrayList<>();

    private Look(NeverHalf x) {
        this.x = x;
    }

    /** Rows, images and the tape show only by calls that change them: nothing can follow a look. */
    static List<String> through(NeverHalf x) {
        Look look = new Look(x);
        look.village();
        look.rows();
        look.images();
        look.tape();
        if (look.seen.size() > MOST_CALLS) {
            throw new IllegalStateException("a look of " + look.seen.size() + " calls");
        }
        return look.seen;
    }

    private void see(String call, long answer) {
        seen.add(call + " = " + answer);
    }

    private void village() {
        counts();
        for (int o = 0; o < x.count(1); o++) {
            see("oven " + o, x.oven(o));
        }
        for (int f = 0; f < x.count(0); f++) {
            family(f);
        }
    }

    private void counts() {
        for (int what = 0; what < 14; what++) {
            see("count " + what, x.count(what));
        }
        see("fault 0", x.fault(0));
        see("fault 1", x.fault(1));
    }

    private void family(int f) {
        for (int what = 0; what < 7; what++) {
            see("family " + f + " " + what, x.family(f, what));
        }
        for (int age = 0; age < x.count(3); age++) {
            see("family " + f + " age " + age, x.family(f, 10 + age));
        }
        for (int g = 0; g < x.count(0); g++) {
            if (g != f) {
                see("owed " + f + " " + g, x.owed(f, g));
            }
            if (g > f) {
                see("quarrel " + f + " " + g, x.quarrel(f, g));
            }
        }
    }

    /** What stands in them by what can be baked from it, then how many there are and of which sort. */
    private void rows() {
        for (int row = 0; row < 4; row++) {
            for (int what = 0; what < 3; what++) {
                see("judge " + row + " " + what, x.judge(row, what));
            }
        }
        for (int row = 0; row < 4; row++) {
            see("fire " + row, x.fire(0, row));
            see("loaves of 0", x.family(0, 1));
        }
        int[] places = {0, 2, 3, 4, 39, 40};
        for (int row = 0; row < 4; row++) {
            for (int i : places) {
                see("write " + row + " " + i, x.write(row, i, ALL_BITS));
            }
        }
    }

    private void images() {
        for (int i = 0; i < 2; i++) {
            see("restore " + i, x.restore(i));
            if (x.count(0) <= MANY_FAMILIES) {
                village();
            }
        }
    }

    private void tape() {
        see("village", x.village(x.count(11)));
        counts();
    }
}
