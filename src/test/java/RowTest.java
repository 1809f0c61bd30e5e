/** Promises 40 to 45: rows of numbers, images, counts. */
final class RowTest {
    private static final Checks CHECKS = new Checks();

    public static void main(String[] args) {
        numbers();
        write();
        copy();
        images();
        imagesHoldAll();
        count();
        CHECKS.finish();
    }

    private static void numbers() {
        NeverHalf x = new NeverHalf();
        CHECKS.due("no such row", -2, x.numbers(4, 0, 41));
        CHECKS.due("no such row", -2, x.numbers(-1, 0, 1));
        CHECKS.due("no such sort", -2, x.numbers(0, 4, 1));
        CHECKS.due("no such sort", -2, x.numbers(0, -1, 41));
        CHECKS.due("41", -3, x.numbers(0, 0, 41));
        CHECKS.due("still missing", -6, x.write(0, 0, 1));
        CHECKS.due("40", 0, x.numbers(0, 3, 40));
        CHECKS.due("write", 5, x.write(0, 39, 5));
        CHECKS.due("-1", -3, x.numbers(0, 0, -1));
        CHECKS.due("the row stays", 1L << 50, x.write(0, 39, 1L << 50));
        CHECKS.due("0", 0, x.numbers(0, 3, 0));
        CHECKS.due("no number", -7, x.write(0, 0, 1));
        NeverHalf y = Checks.told("family 1 wish 1;oven 1;");
        Checks.row(y, 0, 9);
        CHECKS.due("again, all 0", 0, y.numbers(0, 3, 1));
        CHECKS.due("number 0 is 0", -13, y.fire(0, 0));
    }

    private static void write() {
        NeverHalf x = new NeverHalf();
        long v = 0x123456789abcdef0L;
        long[] due = {(byte) 0xf0, (short) 0xdef0, 0x9abcdef0, v};
        for (int sort = 0; sort < 4; sort++) {
            x.numbers(sort, sort, 2);
            CHECKS.due("cut to sort " + sort, due[sort], x.write(sort, 1, v));
            CHECKS.due("-1", -1, x.write(sort, 1, -1));
            CHECKS.due("0", 0, x.write(sort, 1, 0));
        }
        CHECKS.due("128 of 8 bits", -128, x.write(0, 0, 128));
        CHECKS.due("no such row", -2, x.write(4, 9, 0));
        CHECKS.due("no such row", -2, x.write(-1, 0, 0));
        CHECKS.due("no such number", -7, x.write(0, 2, 0));
        CHECKS.due("no such number", -7, x.write(0, -1, 0));
    }

    private static void copy() {
        NeverHalf x = Checks.told("family 1 wish 4;family 1 wish 99;family 1;oven 60;oven 4;");
        CHECKS.due("no such row", -2, x.copy(4));
        CHECKS.due("missing", -6, x.copy(0));
        x.numbers(0, 0, 2);
        CHECKS.due("not so many places", -7, x.copy(0));
        x.numbers(0, 0, 3);
        CHECKS.due("how many", 3, x.copy(0));
        CHECKS.due("wishes as loaves: above its flour", -11, x.fire(0, 0));
        x.wish(1, 0);
        CHECKS.due("again", 3, x.copy(0));
        CHECKS.due("wishes as loaves", 20, x.fire(1, 0));
        CHECKS.due("wishes stay", 4, x.family(0, 3));
        x.numbers(1, 3, 4);
        x.write(1, 3, 77);
        CHECKS.due("more places", 3, x.copy(1));
        Checks.tell(x, "family 1;family 1;family 1;family 1 flour 99;oven 1;");
        CHECKS.due("the last one stays as it is", -13, x.fire(0, 1));
        CHECKS.due("without families", 0, new NeverHalf().numbers(0, 0, 0));
    }

    private static void images() {
        NeverHalf x = Checks.told("family 1 wish 4;oven 4;");
        CHECKS.due("no such", -2, x.image(2));
        CHECKS.due("no such", -2, x.image(-1));
        CHECKS.due("no such", -2, x.restore(2));
        CHECKS.due("none was made", -5, x.restore(0));
        CHECKS.due("image(0)", 0, x.image(0));
        CHECKS.due("none was made of 1", -5, x.restore(1));
        x.wish(0, 9);
        CHECKS.due("image(1)", 0, x.image(1));
        CHECKS.due("restore(0)", 0, x.restore(0));
        CHECKS.due("wish", 4, x.family(0, 3));
        CHECKS.due("restore(1)", 0, x.restore(1));
        CHECKS.due("wish", 9, x.family(0, 3));
        x.wish(0, 1);
        CHECKS.due("restore(1) again", 0, x.restore(1));
        CHECKS.due("wish", 9, x.family(0, 3));
    }

    private static void imagesHoldAll() {
        NeverHalf x = Checks.told("keep 2;fuel 7;family 3 bread 5 5 wish 2;family 4;family 5;oven 2;oven 9;quarrel 0 1;");
        x.fireWishes(0, 1);
        x.lend(0, 2, 8);
        x.day();
        x.numbers(0, 0, 2);
        x.image(0);
        int[] counts = new int[14];
        int[] first = new int[8];
        for (int what = 0; what < 14; what++) {
            counts[what] = x.count(what);
        }
        for (int what = 0; what < 8; what++) {
            first[what] = x.family(0, what);
        }
        x.fireWishes(1, 0);
        x.wish(1, 2);
        x.fireWishes(0, 2);
        x.wish(0, 2);
        x.fireWishes(0, 1);
        x.lend(1, 0, 3);
        for (int i = 0; i < 4; i++) {
            x.day();
        }
        Checks.tell(x, "keep 5;family 9;oven 7;oven 8;oven 9;");
        x.drawn(5, 9);
        x.feed(0, 0, 0, 0, 0);
        Checks.tell(x, "nothing;");
        x.numbers(0, 0, 3);
        CHECKS.due("restore(0)", 0, x.restore(0));
        for (int what = 0; what < 14; what++) {
            CHECKS.due("restored count(" + what + ")", counts[what], x.count(what));
        }
        for (int what = 0; what < 8; what++) {
            CHECKS.due("restored family(0, " + what + ")", first[what], x.family(0, what));
        }
        CHECKS.due("fuel owed", 7, x.family(0, 4));
        CHECKS.due("debt", 8, x.owed(2, 0));
        CHECKS.due("quarrel", 1, x.quarrel(1, 0));
        CHECKS.due("oven", 9, x.oven(1));
        CHECKS.due("rows are not in it", 0, x.write(0, 2, 0));
        CHECKS.due("the latest village that was read is not in it", 1, x.fault(0));
        x.marry(0, 2);
        CHECKS.due("restore(0) behind a marriage", 0, x.restore(0));
        CHECKS.due("families", 3, x.count(0));
        CHECKS.due("debt", 8, x.owed(2, 0));
    }

    private static void count() {
        NeverHalf x = Checks.told("keep 4;fuel 8;family 5 flour 20 bread 3 wish 6;family 7 bread 1 1;oven 6;oven 9;");
        x.fireWishes(0, 1);
        x.lend(0, 1, 2);
        x.feed(0, 0, 0, 0, 0);
        CHECKS.due("hunger", 5, x.day());
        int[] due = {2, 2, 1, 4, 8, 64, 4, 0, 5, 0, 12, 20, 6, 2};
        for (int what = 0; what < due.length; what++) {
            CHECKS.due("count(" + what + ")", due[what], x.count(what));
        }
        CHECKS.due("count(14)", -1, x.count(14));
        CHECKS.due("count(-1)", -1, x.count(-1));
    }
}
