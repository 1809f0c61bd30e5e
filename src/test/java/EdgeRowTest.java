/** The edges of promises 40 to 45: rows of numbers, images, counts, and the last calls of an object. */
final class EdgeRowTest {
    private static final Checks CHECKS = new Checks();
    private static final int[] FAR = {Integer.MIN_VALUE, Integer.MAX_VALUE};

    public static void main(String[] args) {
        numbersWhich();
        numbersHowMany();
        numbersInPlace();
        writeWhich();
        writeCut();
        writeFar();
        copyWhich();
        copyPlaces();
        imageWhich();
        imagesApart();
        imageOfNoVillage();
        imageOfAll();
        counts();
        lastCalls();
        CHECKS.finish();
    }

    private static void numbersWhich() {
        Twins rich = Twins.rich(CHECKS);
        for (int i = 0; i < 4; i++) {
            rich.answers(0, "numbers", i, 0, 1);
            rich.answers(0, "numbers", 0, i, 1);
            rich.refused(-2, "numbers", i, 4, 1);
            rich.refused(-2, "numbers", i, -1, 1);
            rich.refused(-2, "numbers", 4, i, 1);
            rich.refused(-2, "numbers", -1, i, 1);
        }
        for (int far : FAR) {
            rich.refused(-2, "numbers", far, 0, 1);
            rich.refused(-2, "numbers", 0, far, 1);
        }
        int[] wrong = {-1, 41};
        for (int n : wrong) {
            rich.refused(-2, "numbers", 4, 0, n);
            rich.refused(-2, "numbers", -1, 0, n);
            rich.refused(-2, "numbers", 0, 4, n);
            rich.refused(-2, "numbers", 0, -1, n);
        }
    }

    private static void numbersHowMany() {
        Twins rich = Twins.rich(CHECKS);
        for (int row = 0; row < 4; row++) {
            rich.answers(0, "numbers", row, 3, 0);
            rich.answers(0, "numbers", row, 3, 40);
            rich.refused(-3, "numbers", row, 3, -1);
            rich.refused(-3, "numbers", row, 3, 41);
            for (int far : FAR) {
                rich.refused(-3, "numbers", row, 0, far);
            }
        }
        for (int row = 0; row < 4; row++) {
            NeverHalf x = new NeverHalf();
            CHECKS.due("missing at first", -6, x.write(row, 0, 1));
            CHECKS.due("refused", -3, x.numbers(row, 0, 41));
            CHECKS.due("still missing", -6, x.write(row, 0, 1));
            CHECKS.due("none", 0, x.numbers(row, 0, 0));
            CHECKS.due("not missing, but none in it", -7, x.write(row, 0, 1));
            CHECKS.due("forty", 0, x.numbers(row, 0, 40));
            CHECKS.due("the first", 1, x.write(row, 0, 1));
            CHECKS.due("the last", 1, x.write(row, 39, 1));
            CHECKS.due("behind it", -7, x.write(row, 40, 1));
            for (int other = 0; other < 4; other++) {
                CHECKS.due("the others are missing", other == row ? 1 : -6, x.write(other, 0, 1));
            }
        }
    }

    /** All are 0, of the new sort, as many as were told. */
    private static void numbersInPlace() {
        NeverHalf x = Twins.richVillage();
        CHECKS.due("loaves", 36, x.fire(0, 0));
        CHECKS.due("anew", 0, x.numbers(0, 3, 4));
        CHECKS.due("no loaves", -13, x.fire(0, 0));
        CHECKS.due("one more", 0, x.numbers(0, 0, 5));
        CHECKS.due("as many", -7, x.fire(0, 0));
        CHECKS.due("its sort", -128, x.write(0, 4, 128));
        CHECKS.due("one less", 0, x.numbers(0, 2, 4));
        CHECKS.due("its sort", 128, x.write(0, 3, 128));
        CHECKS.due("none behind", -7, x.write(0, 4, 128));
        x.write(0, 3, 12);
        x.numbers(0, 2, 3);
        x.numbers(0, 2, 4);
        CHECKS.due("nothing of it comes back", -13, x.fire(0, 0));
    }

    private static void writeWhich() {
        Twins rich = Twins.rich(CHECKS);
        int[] length = {4, 3, 40};
        for (int row = 0; row < 3; row++) {
            rich.answers(1, "write", row, 0, 1);
            rich.answers(1, "write", row, length[row] - 1, 1);
            rich.refused(-7, "write", row, length[row], 1);
            rich.refused(-7, "write", row, -1, 1);
            for (int far : FAR) {
                rich.refused(-7, "write", row, far, 1);
            }
        }
        int[] places = {-1, 0, 40};
        for (int i : places) {
            rich.refused(-6, "write", 3, i, 1);
            rich.refused(-2, "write", 4, i, 1);
            rich.refused(-2, "write", -1, i, 1);
            for (int far : FAR) {
                rich.refused(-2, "write", far, i, 1);
            }
        }
    }

    /** The greatest and the least of each sort stay, those beyond wrap around. */
    private static void writeCut() {
        for (int sort = 0; sort < 4; sort++) {
            NeverHalf x = new NeverHalf();
            x.numbers(0, sort, 1);
            int bits = 8 << sort;
            long greatest = (1L << bits - 1) - 1;
            long least = -greatest - 1;
            long[] values = {0, 1, -1, greatest, least};
            for (long v : values) {
                CHECKS.due(v + " of sort " + sort, v, x.write(0, 0, v));
            }
            CHECKS.due("one above, sort " + sort, least, x.write(0, 0, greatest + 1));
            CHECKS.due("one below, sort " + sort, greatest, x.write(0, 0, least - 1));
            CHECKS.due("all bits, sort " + sort, -1, x.write(0, 0, greatest - least));
            CHECKS.due("one more than all bits, sort " + sort, 0, x.write(0, 0, greatest - least + 1));
        }
    }

    private static void writeFar() {
        NeverHalf x = new NeverHalf();
        for (int sort = 0; sort < 4; sort++) {
            x.numbers(sort, sort, 40);
        }
        long[] greatest = {-1, -1, -1, Long.MAX_VALUE};
        long[] least = {0, 0, 0, Long.MIN_VALUE};
        long[] some = {0x21, 0x4321, 0x87654321, 0xfedcba9987654321L};
        for (int sort = 0; sort < 4; sort++) {
            CHECKS.due("the greatest", greatest[sort], x.write(sort, 39, Long.MAX_VALUE));
            CHECKS.due("the least", least[sort], x.write(sort, 39, Long.MIN_VALUE));
            CHECKS.due("some", some[sort], x.write(sort, 39, 0xfedcba9987654321L));
        }
    }

    private static void copyWhich() {
        Twins rich = Twins.rich(CHECKS);
        rich.answers(4, "copy", 0);
        rich.answers(4, "copy", 2);
        rich.refused(-7, "copy", 1);
        rich.refused(-6, "copy", 3);
        rich.refused(-2, "copy", 4);
        rich.refused(-2, "copy", -1);
        for (int far : FAR) {
            rich.refused(-2, "copy", far);
        }
    }

    private static void copyPlaces() {
        NeverHalf x = Twins.richVillage();
        x.numbers(3, 0, 3);
        CHECKS.due("three places for four", -7, x.copy(3));
        x.numbers(3, 0, 4);
        CHECKS.due("four places", 4, x.copy(3));
        x.wish(2, 0);
        CHECKS.due("again", 4, x.copy(3));
        CHECKS.due("5 7 0 0 as loaves", 36, x.fire(0, 3));
        CHECKS.due("wishes stay", 12, x.count(7));
        x.numbers(3, 0, 0);
        CHECKS.due("no place", -7, x.copy(3));
        CHECKS.due("no families", 0, x.village(0));
        CHECKS.due("none comes", 0, x.copy(3));
        CHECKS.due("none comes into some", 0, x.copy(2));
        NeverHalf all = Checks.told("family 1 flour 99 wish 99;".repeat(10) + "oven 1;");
        all.numbers(0, 0, 9);
        CHECKS.due("nine places for ten", -7, all.copy(0));
        all.numbers(0, 0, 10);
        CHECKS.due("ten", 10, all.copy(0));
        CHECKS.due("99 of 8 bits are its flour", -13, all.fire(0, 0));
        all.numbers(0, 0, 40);
        all.write(0, 10, 7);
        CHECKS.due("ten of forty", 10, all.copy(0));
        Checks.tell(all, "oven 9;");
        all.numbers(1, 0, 1);
        CHECKS.due("no families", 0, all.copy(1));
    }

    private static void imageWhich() {
        Twins rich = Twins.rich(CHECKS);
        rich.answers(0, "image", 0);
        rich.answers(0, "image", 1);
        rich.refused(-2, "image", 2);
        rich.refused(-2, "image", -1);
        rich.answers(0, "restore", 0);
        rich.refused(-5, "restore", 1);
        rich.refused(-2, "restore", 2);
        rich.refused(-2, "restore", -1);
        for (int far : FAR) {
            rich.refused(-2, "image", far);
            rich.refused(-2, "restore", far);
        }
        Twins none = new Twins(CHECKS, NeverHalf::new);
        none.refused(-5, "restore", 0);
        none.refused(-5, "restore", 1);
        none.refused(-2, "restore", 2);
        none.answers(0, "image", 0);
        none.answers(0, "image", 1);
    }

    /** What changes later changes neither the image nor the other one. */
    private static void imagesApart() {
        NeverHalf x = Checks.told("family 1 wish 1;family 2;oven 1;");
        x.image(0);
        x.wish(0, 2);
        x.fallOut(0, 1);
        x.lend(0, 1, 9);
        x.image(1);
        x.wish(0, 3);
        x.fallOut(0, 1);
        x.clear();
        x.marry(0, 1);
        x.day();
        for (int turn = 0; turn < 2; turn++) {
            CHECKS.due("restore(0)", 0, x.restore(0));
            CHECKS.due("families", 2, x.count(0));
            CHECKS.due("wish", 1, x.family(0, 3));
            CHECKS.due("quarrel", 0, x.quarrel(0, 1));
            CHECKS.due("debts", 0, x.count(13));
            CHECKS.due("day", 0, x.count(2));
            CHECKS.due("fuel", 20, x.fireWishes(0, 1));
            CHECKS.due("restore(1)", 0, x.restore(1));
            CHECKS.due("wish", 2, x.family(0, 3));
            CHECKS.due("quarrel", 1, x.quarrel(0, 1));
            CHECKS.due("debts", 9, x.owed(1, 0));
            CHECKS.due("flour", 59, x.family(1, 1));
            CHECKS.due("fuel", 0, x.family(0, 4));
            x.drawn(3, 30);
        }
        CHECKS.due("in place of another one", 0, x.image(0));
        x.wish(0, 7);
        CHECKS.due("restore(0)", 0, x.restore(0));
        CHECKS.due("the later one", 30, x.count(2));
        CHECKS.due("its wish", 2, x.family(0, 3));
    }

    private static void imageOfNoVillage() {
        NeverHalf x = new NeverHalf();
        x.day();
        CHECKS.due("image(1)", 0, x.image(1));
        CHECKS.due("a village", 2, Checks.tell(x, "keep 1;family 1;"));
        CHECKS.due("restore(1)", 0, x.restore(1));
        int[] due = {0, 0, 1, 3, 20, 0, 0, 0, 0, 0, 0, 0, 0, 0};
        for (int what = 0; what < due.length; what++) {
            CHECKS.due("no village, count(" + what + ")", due[what], x.count(what));
        }
        CHECKS.due("no family", -2, x.family(0, 0));
    }

    /** Everything that can be seen of the village comes back, into an object that stands quite otherwise. */
    private static void imageOfAll() {
        NeverHalf x = Twins.richVillage();
        CHECKS.due("image(1)", 0, x.image(1));
        CHECKS.due("the tape is empty then", 0, x.village(0));
        CHECKS.due("anew", 12, Checks.tell(x, "keep 1;fuel 3;" + "family 30 flour 7 bread 5 wish 8;".repeat(9)
                + "oven 8;"));
        x.day();
        x.lend(0, 1, 2);
        x.fallOut(5, 6);
        x.fireWishes(0, 4);
        CHECKS.due("restore(1)", 0, x.restore(1));
        int[] due = {4, 3, 1, 4, 37, 248, 40, 21, 6, 7, 20, 0, 10, 20};
        for (int what = 0; what < due.length; what++) {
            CHECKS.due("restored count(" + what + ")", due[what], x.count(what));
        }
        int[][] families = {{5, 49, 10, 5, 15, 0, 0, 6, 0, 6, 2, 2}, {7, 67, 30, 7, 21, 0, 0, -4, 0, 16, 8, 6},
            {2, 82, 0, 9, 0, 0, 7, -2, 0, 0, 0, 0}, {6, 50, 0, 0, 0, 6, 0, 0, 0, 0, 0, 0}};
        for (int f = 0; f < 4; f++) {
            for (int i = 0; i < 12; i++) {
                int what = i < 8 ? i : i + 2;
                CHECKS.due("restored family(" + f + ", " + what + ")", families[f][i], x.family(f, what));
            }
            for (int g = 0; g < 4; g++) {
                CHECKS.due("restored quarrel", f + g == 2 && f != g ? 1 : 0, x.quarrel(f, g));
            }
        }
        CHECKS.due("0 owes 2", 4, x.owed(0, 2));
        CHECKS.due("1 owes 0", 10, x.owed(1, 0));
        CHECKS.due("2 owes 1", 6, x.owed(2, 1));
        int[] sizes = {12, 9, 16};
        for (int o = 0; o < 3; o++) {
            CHECKS.due("oven " + o, sizes[o], x.oven(o));
        }
    }

    private static void counts() {
        Twins rich = Twins.rich(CHECKS);
        int[] due = {4, 3, 1, 4, 37, 248, 40, 21, 6, 7, 20, 40, 10, 20};
        for (int what = 0; what < due.length; what++) {
            rich.asks(due[what], "count", what);
        }
        rich.asks(-1, "count", -1);
        rich.asks(-1, "count", 14);
        rich.asks(-1, "count", -2);
        for (int far : FAR) {
            rich.asks(-1, "count", far);
        }
        Twins all = new Twins(CHECKS, "keep 5;" + "family 30 flour 999 bread 99 99 99 99 99 wish 99;".repeat(10));
        int[] greatest = {10, 0, 0, 5, 20, 9990, 4950, 990, 0, 0, 300, 0, 11, 0};
        for (int what = 0; what < greatest.length; what++) {
            all.answers(greatest[what], "count", what);
        }
    }

    /** The 512th call still answers. */
    private static void lastCalls() {
        NeverHalf x = Checks.told("family 1;");
        for (int call = 3; call < 512; call++) {
            CHECKS.due("day", 1, x.day());
        }
        CHECKS.due("the 512th call", 509, x.count(2));
    }
}
