/** The edges of promises 1 and 5 to 10: a new object, families, ovens, quarrels, wishes, flour. */
final class EdgeVillageTest {
    private static final Checks CHECKS = new Checks();
    private static final int[] FAR = {Integer.MIN_VALUE, Integer.MAX_VALUE};

    public static void main(String[] args) {
        newObject();
        newObjectRefuses();
        familyNumbers();
        familyWhats();
        breadOfAge();
        ovens();
        quarrels();
        fallOut();
        fallOutBothWays();
        wishes();
        mill();
        millUpTo();
        CHECKS.finish();
    }

    private static void newObject() {
        Twins none = new Twins(CHECKS, NeverHalf::new);
        int[] counts = {0, 0, 0, 3, 20, 0, 0, 0, 0, 0, 0, 0, 0, 0};
        for (int what = 0; what < counts.length; what++) {
            none.asks(counts[what], "count", what);
        }
        none.asks(1, "canBake", 0);
        none.asks(0, "canBake", 1);
        none.asks(0, "fires", 0);
        none.asks(-1, "fires", 1);
        none.asks(1, "ways", 0);
        none.asks(0, "ways", 1);
        none.asks(-4, "gap");
        none.asks(0, "upTo", 0);
        none.asks(-1, "upTo", 1);
        none.asks(0, "fills", 0);
        none.asks(1, "parted");
        none.asks(0, "payments");
        none.asks(-1, "ring", -1);
        none.asks(-1, "ring", 0);
        none.asks(0, "clear");
        none.answers(0, "day");
        for (int what = 0; what < 3; what++) {
            none.asks(0, "served", what);
        }
        none.asks(-1, "better", 0);
        none.asks(-1, "better", 1);
        none.asks(0, "better", 2);
    }

    /** There is no family, no oven, no row, no image. */
    private static void newObjectRefuses() {
        Twins none = new Twins(CHECKS, NeverHalf::new);
        none.refused(-2, "family", 0, 0);
        none.refused(-2, "oven", 0);
        none.refused(-2, "quarrel", 0, 0);
        none.refused(-2, "fallOut", 0, 1);
        none.refused(-2, "wish", 0, 0);
        none.refused(-2, "mill", 0, 0);
        none.refused(-2, "fire", 0, 0);
        none.refused(-2, "fireWishes", 0, 0);
        none.refused(-6, "judge", 0, 0);
        none.refused(-6, "perform", 0);
        none.refused(-5, "drawn", 1, 1);
        none.refused(-2, "lasts", 0);
        none.refused(-3, "fills", 1);
        none.refused(-2, "group", 0, -1);
        none.refused(-2, "together", 0);
        none.refused(-2, "stones", 0, 0);
        none.refused(-2, "leaves", 0, 0);
        none.refused(-2, "stable", 0, -1);
        none.refused(-2, "lend", 0, 1, 1);
        none.refused(-2, "owed", 0, 0);
        none.refused(-5, "ahead", 1, 0);
        none.refused(-5, "enough", 1);
        none.refused(-2, "marry", 0, 1);
        for (int row = 0; row < 4; row++) {
            none.refused(-6, "write", row, 0, 0);
            none.refused(-6, "copy", row);
        }
        none.refused(-5, "restore", 0);
        none.refused(-5, "restore", 1);
    }

    private static void familyNumbers() {
        Twins rich = Twins.rich(CHECKS);
        int[] eats = {5, 7, 2, 6};
        for (int f = 0; f < eats.length; f++) {
            rich.asks(eats[f], "family", f, 0);
        }
        rich.refused(-2, "family", 4, 0);
        rich.refused(-2, "family", -1, 0);
        rich.refused(-2, "family", 4, 10);
        for (int far : FAR) {
            rich.refused(-2, "family", far, 0);
        }
        Twins ten = new Twins(CHECKS, "family 3;".repeat(10));
        ten.asks(3, "family", 9, 0);
        ten.refused(-2, "family", 10, 0);
    }

    private static void familyWhats() {
        Twins rich = Twins.rich(CHECKS);
        int[][] due = {{5, 49, 10, 5, 15, 0, 0, 6}, {7, 67, 30, 7, 21, 0, 0, -4}, {2, 82, 0, 9, 0, 0, 7, -2},
            {6, 50, 0, 0, 0, 6, 0, 0}};
        for (int f = 0; f < due.length; f++) {
            for (int what = 0; what < 8; what++) {
                rich.asks(due[f][what], "family", f, what);
            }
        }
        int[] others = {-1, 8, 9, 14, 15, 20, Integer.MIN_VALUE, Integer.MAX_VALUE};
        for (int what : others) {
            rich.refused(-2, "family", 0, what);
        }
    }

    private static void breadOfAge() {
        for (int keep = 1; keep <= 5; keep++) {
            Twins all = new Twins(CHECKS, "keep " + keep + ";family 1 bread" + " 9".repeat(keep) + ";");
            all.refused(-2, "family", 0, 9);
            for (int age = 0; age < keep; age++) {
                all.asks(9, "family", 0, 10 + age);
            }
            all.refused(-2, "family", 0, 10 + keep);
            all.refused(-2, "family", 0, 15);
            all.asks(9 * keep, "family", 0, 2);
        }
    }

    private static void ovens() {
        Twins rich = Twins.rich(CHECKS);
        rich.asks(12, "oven", 0);
        rich.asks(16, "oven", 2);
        rich.refused(-2, "oven", 3);
        rich.refused(-2, "oven", -1);
        for (int far : FAR) {
            rich.refused(-2, "oven", far);
        }
        Twins one = new Twins(CHECKS, "oven 60;");
        one.asks(60, "oven", 0);
        one.refused(-2, "oven", 1);
    }

    private static void quarrels() {
        Twins rich = Twins.rich(CHECKS);
        for (int f = 0; f < 4; f++) {
            for (int g = 0; g < 4; g++) {
                rich.asks(f + g == 2 && f != g ? 1 : 0, "quarrel", f, g);
            }
            rich.refused(-2, "quarrel", f, 4);
            rich.refused(-2, "quarrel", 4, f);
            rich.refused(-2, "quarrel", f, -1);
            rich.refused(-2, "quarrel", -1, f);
        }
        rich.refused(-2, "quarrel", 4, 4);
        for (int far : FAR) {
            rich.refused(-2, "quarrel", far, 0);
            rich.refused(-2, "quarrel", 0, far);
        }
    }

    private static void fallOut() {
        Twins rich = Twins.rich(CHECKS);
        rich.answers(0, "fallOut", 0, 2);
        rich.answers(0, "fallOut", 2, 0);
        rich.answers(1, "fallOut", 0, 3);
        rich.answers(1, "fallOut", 3, 0);
        for (int f = 0; f < 4; f++) {
            rich.refused(-2, "fallOut", f, f);
            rich.refused(-2, "fallOut", f, 4);
            rich.refused(-2, "fallOut", 4, f);
            rich.refused(-2, "fallOut", f, -1);
            rich.refused(-2, "fallOut", -1, f);
        }
        rich.refused(-2, "fallOut", 4, 5);
        for (int far : FAR) {
            rich.refused(-2, "fallOut", far, 0);
            rich.refused(-2, "fallOut", 0, far);
        }
    }

    private static void fallOutBothWays() {
        NeverHalf x = Checks.told("family 1;".repeat(10));
        for (int turn = 1; turn >= 0; turn--) {
            CHECKS.due("fallOut(9, 8)", turn, x.fallOut(9, 8));
            CHECKS.due("fallOut(0, 9)", turn, x.fallOut(0, 9));
            int all = 0;
            for (int f = 0; f < 10; f++) {
                for (int g = 0; g < 10; g++) {
                    all += x.quarrel(f, g);
                }
            }
            CHECKS.due("quarrels, each twice", 4 * turn, all);
            CHECKS.due("8, 9", turn, x.quarrel(8, 9));
            CHECKS.due("9, 0", turn, x.quarrel(9, 0));
        }
    }

    private static void wishes() {
        Twins rich = Twins.rich(CHECKS);
        int[] was = {5, 7, 9, 0};
        for (int f = 0; f < was.length; f++) {
            rich.answers(was[f], "wish", f, 0);
            rich.answers(was[f], "wish", f, 99);
            rich.refused(-3, "wish", f, -1);
            rich.refused(-3, "wish", f, 100);
        }
        rich.refused(-2, "wish", 4, 0);
        rich.refused(-2, "wish", -1, 0);
        rich.refused(-2, "wish", 4, 100);
        rich.refused(-2, "wish", -1, -1);
        for (int far : FAR) {
            rich.refused(-2, "wish", far, 0);
            rich.refused(-3, "wish", 0, far);
        }
        NeverHalf x = Twins.richVillage();
        x.wish(0, 99);
        CHECKS.due("wish is 99", 99, x.family(0, 3));
        CHECKS.due("it was 99", 99, x.wish(0, 0));
        CHECKS.due("wish is 0", 0, x.family(0, 3));
        CHECKS.due("it was 0", 0, x.wish(0, 1));
        CHECKS.due("others' wishes", 17, x.count(7));
    }

    private static void mill() {
        Twins rich = Twins.rich(CHECKS);
        rich.asks(49, "mill", 0, 0);
        rich.answers(50, "mill", 0, 1);
        rich.answers(999, "mill", 0, 999);
        rich.answers(51, "mill", 3, 1);
        rich.refused(-3, "mill", 0, -1);
        rich.refused(-3, "mill", 0, 1000);
        rich.refused(-2, "mill", 4, 0);
        rich.refused(-2, "mill", -1, 0);
        rich.refused(-2, "mill", 4, 1000);
        rich.refused(-2, "mill", -1, -1);
        for (int far : FAR) {
            rich.refused(-2, "mill", far, 0);
            rich.refused(-3, "mill", 0, far);
        }
    }

    private static void millUpTo() {
        Twins some = new Twins(CHECKS, "family 1 flour 0;family 1 flour 998;family 1 flour 999;");
        some.answers(999, "mill", 0, 999);
        some.answers(999, "mill", 1, 1);
        some.answers(999, "mill", 1, 2);
        some.asks(999, "mill", 2, 0);
        some.asks(999, "mill", 2, 999);
        NeverHalf x = Checks.told("family 1 flour 998;family 1 flour 3;");
        x.mill(0, 999);
        CHECKS.due("flour", 999, x.family(0, 1));
        CHECKS.due("the other's", 3, x.family(1, 1));
    }
}
