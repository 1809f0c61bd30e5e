/** The edges of promises 32 to 36: lending, rings of debts, payments. */
final class EdgeLendTest {
    private static final Checks CHECKS = new Checks();
    private static final int[] FAR = {Integer.MIN_VALUE, Integer.MAX_VALUE};
    private static final String SOME = "family 1 flour 500;family 1 flour 500;family 1 flour 0;family 1 flour 999;";
    private static final String TEN = "family 1 flour 100;".repeat(10);

    public static void main(String[] args) {
        lendWhich();
        lendHowMuch();
        lendTooMany();
        lendTellsFirst();
        lendMadeUp();
        owedWhich();
        ringKth();
        ringOfTen();
        ringOfLeastDebts();
        clearNone();
        clearedOfTen();
        clearLeastDebts();
        clearManyRings();
        paymentsBounds();
        CHECKS.finish();
    }

    private static void lendWhich() {
        Twins rich = Twins.rich(CHECKS);
        rich.answers(1, "lend", 0, 3, 1);
        rich.answers(1, "lend", 3, 0, 1);
        for (int f = 0; f < 4; f++) {
            rich.refused(-2, "lend", f, f, 1);
            rich.refused(-2, "lend", f, 4, 1);
            rich.refused(-2, "lend", 4, f, 1);
            rich.refused(-2, "lend", f, -1, 1);
            rich.refused(-2, "lend", -1, f, 1);
        }
        for (int far : FAR) {
            rich.refused(-2, "lend", far, 0, 1);
            rich.refused(-2, "lend", 0, far, 1);
        }
    }

    private static void lendHowMuch() {
        Twins some = new Twins(CHECKS, SOME);
        some.refused(-3, "lend", 0, 2, 0);
        some.refused(-3, "lend", 0, 2, -1);
        some.answers(1, "lend", 0, 2, 1);
        some.answers(500, "lend", 0, 2, 500);
        some.refused(-3, "lend", 0, 2, 501);
        some.answers(999, "lend", 3, 2, 999);
        some.refused(-3, "lend", 3, 2, 1000);
        some.refused(-3, "lend", 2, 0, 1);
        for (int far : FAR) {
            some.refused(-3, "lend", 0, 2, far);
        }
        NeverHalf x = Checks.told(SOME);
        x.lend(3, 2, 999);
        CHECKS.due("the giver has none", 0, x.family(3, 1));
        CHECKS.due("the other one", 999, x.family(2, 1));
        CHECKS.due("balance", 999, x.family(3, 7));
        CHECKS.due("balance", -999, x.family(2, 7));
    }

    private static void lendTooMany() {
        Twins some = new Twins(CHECKS, SOME);
        some.answers(499, "lend", 0, 1, 499);
        some.refused(-4, "lend", 0, 1, 500);
        some.refused(-4, "lend", 0, 3, 1);
        some.refused(-4, "lend", 0, 3, 500);
        some.answers(499, "lend", 3, 0, 499);
        some.refused(-4, "lend", 3, 0, 500);
        some.refused(-4, "lend", 3, 0, 999);
    }

    private static void lendTellsFirst() {
        Twins some = new Twins(CHECKS, SOME);
        some.refused(-2, "lend", 0, 4, 0);
        some.refused(-2, "lend", 4, 3, 1000);
        some.refused(-2, "lend", 3, 3, 1);
        some.refused(-2, "lend", 3, 3, 0);
        some.refused(-3, "lend", 0, 3, 501);
        some.refused(-3, "lend", 0, 3, 0);
    }

    private static void lendMadeUp() {
        int[] back = {9, 10, 11};
        int[][] due = {{1, 0}, {0, 0}, {0, 1}};
        for (int i = 0; i < back.length; i++) {
            NeverHalf x = Checks.told(SOME);
            CHECKS.due("lent", 10, x.lend(0, 1, 10));
            CHECKS.due("back " + back[i], due[i][1], x.lend(1, 0, back[i]));
            CHECKS.due("1 owes 0", due[i][0], x.owed(1, 0));
            CHECKS.due("0 owes 1", due[i][1], x.owed(0, 1));
            CHECKS.due("flour of 0", 490 + back[i], x.family(0, 1));
            CHECKS.due("flour of 1", 510 - back[i], x.family(1, 1));
            CHECKS.due("debts of all", due[i][0] + due[i][1], x.count(13));
        }
    }

    private static void owedWhich() {
        Twins rich = Twins.rich(CHECKS);
        int[][] due = {{0, 0, 4, 0}, {10, 0, 0, 0}, {0, 6, 0, 0}, {0, 0, 0, 0}};
        for (int f = 0; f < 4; f++) {
            for (int g = 0; g < 4; g++) {
                rich.asks(due[f][g], "owed", f, g);
            }
            rich.refused(-2, "owed", f, 4);
            rich.refused(-2, "owed", 4, f);
            rich.refused(-2, "owed", f, -1);
            rich.refused(-2, "owed", -1, f);
        }
        rich.refused(-2, "owed", 4, 4);
        for (int far : FAR) {
            rich.refused(-2, "owed", far, 0);
            rich.refused(-2, "owed", 0, far);
        }
    }

    private static void ringKth() {
        Twins rich = Twins.rich(CHECKS);
        int[] ring = {0, 2, 1};
        rich.asks(3, "ring", -1);
        for (int k = 0; k < ring.length; k++) {
            rich.asks(ring[k], "ring", k);
        }
        Twins none = new Twins(CHECKS, SOME);
        none.asks(-1, "ring", -1);
        none.asks(-1, "ring", 0);
        int[] others = {3, 4, -2, Integer.MIN_VALUE, Integer.MAX_VALUE};
        for (int k : others) {
            rich.asks(-1, "ring", k);
            none.asks(-1, "ring", k);
        }
    }

    /** Each owes the next one, the last one owes the first. */
    private static NeverHalf ringed() {
        NeverHalf x = Checks.told(TEN);
        for (int f = 0; f < 10; f++) {
            x.lend((f + 1) % 10, f, 10 + f);
        }
        return x;
    }

    private static void ringOfTen() {
        Twins ten = new Twins(CHECKS, EdgeLendTest::ringed);
        ten.asks(10, "ring", -1);
        for (int k = 0; k < 10; k++) {
            ten.asks(k, "ring", k);
        }
        ten.asks(-1, "ring", 10);
        Twins back = new Twins(CHECKS, () -> {
            NeverHalf x = ringed();
            x.lend(9, 0, 18);
            return x;
        });
        back.asks(10, "ring", -1);
        Twins open = new Twins(CHECKS, () -> {
            NeverHalf x = ringed();
            x.lend(9, 0, 19);
            return x;
        });
        open.asks(-1, "ring", -1);
        open.asks(-1, "ring", 0);
    }

    /** A debt of 1 makes a ring, one of 0 does not. */
    private static void ringOfLeastDebts() {
        NeverHalf x = Checks.told(SOME);
        x.lend(0, 1, 1);
        x.lend(1, 2, 1);
        x.lend(3, 1, 5);
        CHECKS.due("none", -1, x.ring(-1));
        x.lend(2, 0, 1);
        CHECKS.due("three", 3, x.ring(-1));
        x.lend(0, 2, 1);
        CHECKS.due("none again", -1, x.ring(-1));
        CHECKS.due("payments", 2, x.payments());
    }

    private static void clearNone() {
        new Twins(CHECKS, SOME).asks(0, "clear");
        Twins rich = Twins.rich(CHECKS);
        rich.answers(1, "clear");
        Twins cleared = new Twins(CHECKS, () -> {
            NeverHalf x = Twins.richVillage();
            x.clear();
            return x;
        });
        cleared.asks(0, "clear");
        cleared.asks(-1, "ring", -1);
        cleared.asks(6, "owed", 1, 0);
        cleared.asks(2, "owed", 2, 1);
        cleared.asks(0, "owed", 0, 2);
        cleared.asks(8, "count", 13);
        int[] balances = {6, -4, -2, 0};
        for (int f = 0; f < 4; f++) {
            cleared.asks(balances[f], "family", f, 7);
            rich.asks(balances[f], "family", f, 7);
        }
    }

    private static void clearedOfTen() {
        NeverHalf x = ringed();
        CHECKS.due("one ring", 1, x.clear());
        for (int f = 0; f < 10; f++) {
            CHECKS.due("what is left of " + f, f, x.owed(f, (f + 1) % 10));
        }
        CHECKS.due("no more", 0, x.clear());
        CHECKS.due("flour stays", 1000, x.count(5));
    }

    /** Several least debts go at once; rings that share a debt go one by one. */
    private static void clearLeastDebts() {
        NeverHalf like = Checks.told(SOME);
        like.lend(0, 1, 7);
        like.lend(3, 0, 7);
        like.lend(1, 3, 7);
        CHECKS.due("one ring", 1, like.clear());
        CHECKS.due("nothing is left", 0, like.count(13));
        NeverHalf x = Checks.told(TEN);
        x.lend(1, 0, 30);
        for (int f = 2; f < 10; f++) {
            x.lend(f, 1, 2);
            x.lend(0, f, 3);
        }
        CHECKS.due("eight rings", 8, x.clear());
        CHECKS.due("0 owes 1", 14, x.owed(0, 1));
        CHECKS.due("1 owes 9", 0, x.owed(1, 9));
        CHECKS.due("9 owes 0", 1, x.owed(9, 0));
        CHECKS.due("debts of all", 22, x.count(13));
    }

    /** Debts of nine among one another, by rings of three, so that nothing is left. */
    private static void clearManyRings() {
        int[][] owes = new int[9][9];
        int[][] steps = {{1, 4}, {4, 1}, {4, 4}, {2, 3}, {3, 2}, {2, 4}, {4, 2}, {3, 4}, {4, 3}, {3, 3}};
        for (int f = 0; f < 9; f++) {
            for (int i = 0; i < steps.length; i++) {
                int g = (f + steps[i][0]) % 9;
                int h = (g + steps[i][1]) % 9;
                int debt = (f + i) % 11 + 1;
                owes[f][g] += debt;
                owes[g][h] += debt;
                owes[h][f] += debt;
            }
        }
        NeverHalf x = Checks.told("family 1 flour 500;".repeat(9));
        for (int f = 0; f < 9; f++) {
            for (int g = 0; g < 9; g++) {
                if (owes[f][g] > 0) {
                    CHECKS.due("lent", owes[f][g], x.lend(g, f, owes[f][g]));
                }
            }
        }
        CHECKS.due("debts of all", 1641, x.count(13));
        CHECKS.due("nobody has to pay", 0, x.payments());
        CHECKS.due("rings", 28, x.clear());
        CHECKS.due("nothing is left", 0, x.count(13));
        CHECKS.due("flour stays", 4500, x.count(5));
    }

    private static void paymentsBounds() {
        new Twins(CHECKS, NeverHalf::new).asks(0, "payments");
        new Twins(CHECKS, SOME).asks(0, "payments");
        new Twins(CHECKS, "family 1;").asks(0, "payments");
        Twins.rich(CHECKS).asks(2, "payments");
        new Twins(CHECKS, EdgeLendTest::ringed).asks(9, "payments");
        Twins one = new Twins(CHECKS, () -> {
            NeverHalf x = Checks.told(TEN);
            x.lend(0, 9, 1);
            return x;
        });
        one.asks(1, "payments");
        Twins pairs = new Twins(CHECKS, () -> {
            NeverHalf x = Checks.told(TEN);
            for (int f = 0; f < 10; f += 2) {
                x.lend(f, f + 1, 10 + f);
            }
            return x;
        });
        pairs.asks(5, "payments");
        Twins star = new Twins(CHECKS, () -> {
            NeverHalf x = Checks.told(TEN);
            for (int f = 1; f < 10; f++) {
                x.lend(0, f, f);
            }
            return x;
        });
        star.asks(9, "payments");
    }
}
