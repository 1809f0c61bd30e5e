/** The edges of promises 37 to 39: days ahead for the village as one, marriages. */
final class EdgeAheadTest {
    private static final Checks CHECKS = new Checks();
    private static final int[] FAR = {Integer.MIN_VALUE, Integer.MAX_VALUE};

    public static void main(String[] args) {
        aheadWhats();
        aheadDays();
        aheadTellsFirst();
        aheadOfRich();
        aheadFires();
        aheadByKeep();
        aheadOfLikeOnes();
        aheadOfAll();
        enoughDays();
        enoughFires();
        marryWhich();
        marryBounds();
        marryBakedBread();
        marryNumbers();
        marryAmongTen();
        marryAll();
        marryDebts();
        marryWithOneFoe();
        marryAndGoOn();
        CHECKS.finish();
    }

    private static Twins told(String text) {
        return new Twins(CHECKS, text);
    }

    private static void aheadWhats() {
        Twins rich = Twins.rich(CHECKS);
        int[] none = {-1, 3, 4, 9, 17, 18, Integer.MIN_VALUE, Integer.MAX_VALUE};
        for (int what : none) {
            rich.refused(-2, "ahead", 1, what);
            rich.refused(-2, "ahead", 7, what);
        }
        Twins one = told("family 1;oven 1;");
        for (int n = 1; n <= 7; n++) {
            one.asks(0, "ahead", n, 0);
            one.asks(0, "ahead", n, 1);
            one.asks(n, "ahead", n, 2);
            for (int k = 0; k < 7; k++) {
                one.asks(k < n ? 1 : -1, "ahead", n, 10 + k);
            }
        }
    }

    private static void aheadDays() {
        Twins rich = Twins.rich(CHECKS);
        int[] whats = {0, 1, 2, 10, 16};
        for (int what : whats) {
            rich.refused(-3, "ahead", 0, what);
            rich.refused(-3, "ahead", 8, what);
            rich.refused(-3, "ahead", -1, what);
            for (int far : FAR) {
                rich.refused(-3, "ahead", far, what);
            }
        }
    }

    private static void aheadTellsFirst() {
        Twins none = told("family 1;");
        none.refused(-5, "ahead", 1, 0);
        none.refused(-5, "ahead", 7, 16);
        none.refused(-3, "ahead", 0, 0);
        none.refused(-3, "ahead", 8, 16);
        none.refused(-2, "ahead", 0, 3);
        none.refused(-2, "ahead", 8, 17);
        none.refused(-2, "ahead", 1, 9);
        told("family 1;oven 1;").refused(-2, "ahead", 0, 17);
        told("family 1;oven 1;").refused(-2, "ahead", 8, -1);
        new Twins(CHECKS, NeverHalf::new).refused(-5, "ahead", 1, 0);
    }

    private static void planIs(String text, int hunger, int stale, int... plan) {
        Twins some = told(text);
        int all = 0;
        for (int k = 0; k < plan.length; k++) {
            all += plan[k];
            some.asks(plan[k], "ahead", plan.length, 10 + k);
        }
        some.asks(hunger, "ahead", plan.length, 0);
        some.asks(stale, "ahead", plan.length, 1);
        some.asks(all, "ahead", plan.length, 2);
    }

    /** 20 a day, bread 0 22 10 8 by age, an oven of 12. */
    private static void aheadOfRich() {
        Twins rich = Twins.rich(CHECKS);
        int[] fires = {0, 0, 2, 4, 5, 7, 9};
        for (int n = 1; n <= 7; n++) {
            rich.asks(0, "ahead", n, 0);
            rich.asks(0, "ahead", n, 1);
            rich.asks(fires[n - 1], "ahead", n, 2);
            rich.asks(fires[n - 1], "enough", n);
        }
    }

    /** No more than two fires a day, made at its beginning. */
    private static void aheadFires() {
        planIs("family 2;oven 1;", 0, 0, 2);
        planIs("family 3;oven 1;", 1, 0, 2);
        planIs("family 3;oven 1;", 7, 0, 2, 2, 2, 2, 2, 2, 2);
        planIs("family 30;family 30;family 30;family 30;oven 60;", 0, 0, 2, 2, 2, 2, 2, 2, 2);
        planIs("family 1;family 30;family 30;family 30;family 30;oven 60;", 7, 0, 2, 2, 2, 2, 2, 2, 2);
        planIs("family 1 flour 0;oven 1;oven 60;", 0, 0, 1);
        planIs("family 1 bread 1;oven 1;", 0, 0, 0);
        planIs("family 1 bread 0 0 1;oven 1;", 0, 0, 0, 1);
    }

    private static void aheadByKeep() {
        planIs("keep 1;family 1;oven 2;", 0, 3, 1, 1, 1);
        planIs("keep 2;family 1;oven 2;", 0, 0, 1, 0, 1, 0);
        planIs("keep 5;family 1;oven 5;", 0, 0, 1, 0, 0, 0, 0);
        planIs("keep 5;family 1;oven 6;", 0, 1, 1, 0, 0, 0, 0, 1);
        planIs("keep 1;family 1 bread 3;oven 2;", 0, 2, 0);
        planIs("keep 2;family 0 bread 3 4;oven 2;", 0, 7, 0, 0);
        planIs("keep 2;family 0 bread 3 4;oven 2;", 0, 4, 0);
    }

    /** Least hunger, then least stale, then the fewest fires, then the first row. */
    private static void aheadOfLikeOnes() {
        planIs("family 1;oven 3;", 0, 0, 1, 0, 0);
        planIs("keep 5;family 3;oven 2;", 0, 0, 2, 1, 2);
        planIs("keep 5;family 2 bread 2;oven 2;", 0, 0, 0, 1, 1);
        planIs("keep 5;family 1 bread 1;oven 2;", 0, 0, 0, 1, 0);
        planIs("keep 1;family 2 bread 1;oven 1;", 0, 0, 1, 2);
        planIs("keep 1;family 5 bread 3;oven 4;", 0, 5, 1, 2);
    }

    /** Ten families as large as can be. */
    private static void aheadOfAll() {
        planIs("keep 5;" + "family 30 bread 99 99 99 99 99;".repeat(10) + "oven 60;", 0, 3450, 0, 0, 0, 0, 0);
        planIs("family 30;".repeat(10) + "oven 60;", 1260, 0, 2, 2, 2, 2, 2, 2, 2);
    }

    private static void enoughDays() {
        Twins rich = Twins.rich(CHECKS);
        rich.refused(-3, "enough", 0);
        rich.refused(-3, "enough", 8);
        rich.refused(-3, "enough", -1);
        for (int far : FAR) {
            rich.refused(-3, "enough", far);
        }
        Twins none = told("family 1;");
        none.refused(-5, "enough", 1);
        none.refused(-5, "enough", 7);
        none.refused(-3, "enough", 0);
        none.refused(-3, "enough", 8);
        Twins one = told("family 1;oven 1;");
        for (int n = 1; n <= 7; n++) {
            one.asks(n, "enough", n);
        }
    }

    private static void enoughFires() {
        told("oven 5;").asks(0, "enough", 7);
        told("family 0;oven 5;").asks(0, "enough", 7);
        told("family 2;oven 1;").asks(14, "enough", 7);
        told("family 3;oven 1;").asks(-1, "enough", 1);
        told("family 3 bread 1;oven 1;").asks(2, "enough", 1);
        told("family 3 bread 1;oven 1;").asks(-1, "enough", 2);
        told("family 3 bread 2;oven 1;").asks(4, "enough", 2);
        told("keep 1;family 1;oven 60;").asks(7, "enough", 7);
        told("keep 5;family 1;oven 60;").asks(2, "enough", 7);
        told("keep 5;family 1;oven 60;").asks(1, "enough", 5);
        told("keep 5;family 1;oven 60;").asks(2, "enough", 6);
    }

    private static void marryWhich() {
        Twins rich = Twins.rich(CHECKS);
        rich.answers(3, "marry", 0, 1);
        rich.answers(3, "marry", 3, 0);
        rich.refused(-5, "marry", 0, 2);
        rich.refused(-5, "marry", 2, 0);
        for (int f = 0; f < 4; f++) {
            rich.refused(-2, "marry", f, f);
            rich.refused(-2, "marry", f, 4);
            rich.refused(-2, "marry", 4, f);
            rich.refused(-2, "marry", f, -1);
            rich.refused(-2, "marry", -1, f);
        }
        rich.refused(-2, "marry", 4, 4);
        for (int far : FAR) {
            rich.refused(-2, "marry", far, 0);
            rich.refused(-2, "marry", 0, far);
        }
        told("family 1;").refused(-2, "marry", 0, 0);
        told("family 1;").refused(-2, "marry", 0, 1);
    }

    private static void marriedIs(String first, String second, int... due) {
        NeverHalf x = Checks.told("keep 2;family " + first + ";family " + second + ";");
        CHECKS.due(first + " and " + second, 1, x.marry(1, 0));
        int[] whats = {0, 1, 10, 11, 3};
        for (int i = 0; i < whats.length; i++) {
            CHECKS.due(first + " and " + second + ", " + whats[i], due[i], x.family(0, whats[i]));
        }
        CHECKS.due("what is above is not stale", 0, x.family(0, 6));
    }

    private static void marryBounds() {
        marriedIs("0 flour 0", "0 flour 0", 0, 0, 0, 0, 0);
        marriedIs("15 flour 500 bread 50 50 wish 50", "15 flour 499 bread 49 49 wish 49", 30, 999, 99, 99, 99);
        marriedIs("15 flour 500 bread 50 50 wish 50", "16 flour 500 bread 50 50 wish 50", 30, 999, 99, 99, 99);
        marriedIs("14 flour 499 bread 49 48 wish 49", "15 flour 499 bread 49 50 wish 49", 29, 998, 98, 98, 98);
        marriedIs("30 flour 999 bread 99 99 wish 99", "30 flour 999 bread 99 99 wish 99", 30, 999, 99, 99, 99);
        marriedIs("30 flour 999 bread 99 99 wish 99", "0 flour 0", 30, 999, 99, 99, 99);
        marriedIs("0 flour 0", "30 flour 999 bread 99 99 wish 99", 30, 999, 99, 99, 99);
    }

    private static void marryBakedBread() {
        NeverHalf x = Checks.told("family 1 flour 999;family 1;oven 60;");
        Checks.row(x, 0, 60, 0);
        x.fire(0, 0);
        x.fire(0, 0);
        CHECKS.due("more than 99", 120, x.family(0, 10));
        CHECKS.due("one", 1, x.marry(0, 1));
        CHECKS.due("99 of an age", 99, x.family(0, 10));
        CHECKS.due("fuel has no bound", 40, x.family(0, 4));
    }

    private static void marryNumbers() {
        NeverHalf x = Checks.told("fuel 999;family 30 wish 5;family 30;family 30 wish 5;oven 5;");
        x.fireWishes(0, 1);
        x.fireWishes(0, 4);
        for (int i = 0; i < 10; i++) {
            x.day();
        }
        x.image(0);
        CHECKS.due("two", 2, x.marry(0, 2));
        CHECKS.due("fuel of both", 1998, x.family(0, 4));
        CHECKS.due("hunger of both", 590, x.family(0, 5));
        CHECKS.due("the other one", 300, x.family(1, 5));
        CHECKS.due("hunger of all", 890, x.count(8));
        CHECKS.due("day stays", 10, x.count(2));
        x.restore(0);
        CHECKS.due("two", 2, x.marry(2, 1));
        CHECKS.due("the lesser is 1", 595, x.family(1, 5));
        CHECKS.due("0 stays", 295, x.family(0, 5));
        CHECKS.due("there is no 2", -2, x.family(2, 0));
    }

    private static NeverHalf ten() {
        NeverHalf x = Checks.told("family 1;family 2;family 3;family 4;family 5;family 6;family 7;family 8;family 9;"
                + "family 10;quarrel 9 0;quarrel 8 7;quarrel 5 4;");
        x.lend(9, 8, 3);
        x.lend(0, 5, 4);
        return x;
    }

    private static void eats(NeverHalf x, int... due) {
        for (int f = 0; f < due.length; f++) {
            CHECKS.due("eats of " + f, due[f], x.family(f, 0));
        }
        CHECKS.due("no more", -2, x.family(due.length, 0));
    }

    private static void marryAmongTen() {
        NeverHalf last = ten();
        CHECKS.due("8 and 9", 9, last.marry(8, 9));
        eats(last, 1, 2, 3, 4, 5, 6, 7, 8, 19);
        CHECKS.due("quarrels of both", 1, last.quarrel(8, 0));
        CHECKS.due("quarrels of both", 1, last.quarrel(7, 8));
        CHECKS.due("gone", 0, last.owed(8, 8));
        CHECKS.due("debts of all", 4, last.count(13));
        NeverHalf first = ten();
        CHECKS.due("1 and 0", 9, first.marry(1, 0));
        eats(first, 3, 3, 4, 5, 6, 7, 8, 9, 10);
        CHECKS.due("numbered one less", 1, first.quarrel(8, 0));
        CHECKS.due("numbered one less", 1, first.quarrel(6, 7));
        CHECKS.due("numbered one less", 1, first.quarrel(4, 3));
        CHECKS.due("not as it was", 0, first.quarrel(5, 4));
        CHECKS.due("debt", 3, first.owed(7, 8));
        CHECKS.due("debt", 4, first.owed(4, 0));
        NeverHalf far = ten();
        CHECKS.due("they quarrel", -5, far.marry(0, 9));
        far.fallOut(0, 9);
        CHECKS.due("9 and 0", 9, far.marry(9, 0));
        eats(far, 11, 2, 3, 4, 5, 6, 7, 8, 9);
        CHECKS.due("debt to 9", 3, far.owed(8, 0));
        CHECKS.due("debt to 0", 4, far.owed(5, 0));
    }

    /** Down to one, which can't marry itself. */
    private static void marryAll() {
        NeverHalf x = Checks.told("family 1 flour 100;".repeat(10));
        for (int left = 9; left > 0; left--) {
            CHECKS.due("families then", left, x.marry(left, 0));
            CHECKS.due("count", left, x.count(0));
        }
        CHECKS.due("eats", 10, x.family(0, 0));
        CHECKS.due("flour", 999, x.family(0, 1));
        CHECKS.due("both one", -2, x.marry(0, 0));
        CHECKS.due("one of both", -2, x.marry(1, 0));
        CHECKS.due("fills", -3, x.fills(2));
    }

    /** Whoever is at odds with both is at odds with the one that they become. */
    private static void marryWithOneFoe() {
        NeverHalf x = Checks.told("family 1;family 1;family 1;family 1;quarrel 0 1;quarrel 2 1;quarrel 2 3;");
        CHECKS.due("0 and 2", 3, x.marry(0, 2));
        int[][] due = {{0, 1, 1}, {1, 0, 0}, {1, 0, 0}};
        for (int f = 0; f < 3; f++) {
            for (int g = 0; g < 3; g++) {
                CHECKS.due("quarrel(" + f + ", " + g + ")", due[f][g], x.quarrel(f, g));
            }
        }
        CHECKS.due("no more", 0, x.fallOut(1, 0));
        CHECKS.due("1 and 0", 2, x.marry(1, 0));
        CHECKS.due("the other one's", 1, x.quarrel(1, 0));
    }

    /** As many families as ahead of the marriages can come again, each by itself. */
    private static void marryAndGoOn() {
        NeverHalf x = ten();
        x.image(0);
        x.marry(0, 1);
        x.marry(3, 5);
        x.restore(0);
        eats(x, 1, 2, 3, 4, 5, 6, 7, 8, 9, 10);
        x.marry(2, 0);
        x.marry(4, 1);
        CHECKS.due("anew", 4, Checks.tell(x, "family 9;family 8;family 7;family 6;"));
        eats(x, 9, 8, 7, 6);
        x.marry(0, 1);
        CHECKS.due("anew", 4, Checks.tell(x, "family 9;family 8;family 7;family 6;"));
        for (int f = 0; f < 4; f++) {
            x.wish(f, f + 1);
        }
        for (int f = 0; f < 4; f++) {
            CHECKS.due("wish of " + f, f + 1, x.family(f, 3));
        }
    }

    private static void marryDebts() {
        NeverHalf x = Checks.told("family 1;family 1;family 1;family 1;");
        x.lend(0, 2, 5);
        x.lend(2, 1, 7);
        x.lend(1, 3, 2);
        x.lend(3, 0, 1);
        CHECKS.due("0 and 1", 3, x.marry(0, 1));
        CHECKS.due("1 owes 0", 5, x.owed(1, 0));
        CHECKS.due("0 owes 1", 7, x.owed(0, 1));
        CHECKS.due("2 owes 0", 2, x.owed(2, 0));
        CHECKS.due("0 owes 2", 1, x.owed(0, 2));
        CHECKS.due("a ring of two", 2, x.ring(-1));
        CHECKS.due("1 and 2", 2, x.marry(1, 2));
        CHECKS.due("debts of both", 7, x.owed(1, 0));
        CHECKS.due("debts to both", 8, x.owed(0, 1));
        CHECKS.due("0 and 1", 1, x.marry(0, 1));
        CHECKS.due("what they owed one another is gone", 0, x.count(13));
        CHECKS.due("balance", 0, x.family(0, 7));
    }
}
