import java.nio.charset.StandardCharsets;

/** What all tests share: counting wrong answers, and telling a village as a text. */
final class Checks {
    private int wrong;
    private int seen;

    void due(String call, long want, long got) {
        seen++;
        if (got != want) {
            wrong++;
            System.out.println(call + " answered " + got + ", due is " + want);
        }
    }

    void holds(String what, boolean right) {
        due(what, 1, right ? 1 : 0);
    }

    void finish() {
        System.out.println(seen + " answers, " + wrong + " wrong");
        if (wrong != 0) {
            System.exit(1);
        }
    }

    static NeverHalf told(String text) {
        NeverHalf x = new NeverHalf();
        if (tell(x, text) < 0) {
            throw new IllegalStateException("a text with a fault: " + text);
        }
        return x;
    }

    /** Feeds a text, filled up with blanks, and reads it. */
    static int tell(NeverHalf x, String text) {
        byte[] bytes = text.getBytes(StandardCharsets.ISO_8859_1);
        feed(x, bytes);
        return x.village(bytes.length);
    }

    static void feed(NeverHalf x, byte[] bytes) {
        for (int at = 0; at < bytes.length; at += 20) {
            x.feed(four(bytes, at), four(bytes, at + 4), four(bytes, at + 8), four(bytes, at + 12),
                    four(bytes, at + 16));
        }
    }

    static int four(byte[] bytes, int at) {
        int all = 0;
        for (int i = at; i < at + 4; i++) {
            all = all << 8 | (i < bytes.length ? bytes[i] & 255 : 32);
        }
        return all;
    }

    /** A row of 64-bit numbers. */
    static void row(NeverHalf x, int row, long... numbers) {
        x.numbers(row, 3, numbers.length);
        for (int i = 0; i < numbers.length; i++) {
            x.write(row, i, numbers[i]);
        }
    }
}
