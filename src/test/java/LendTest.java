/** Promises 32 to 36: lending, rings of debts, payments. */
final class LendTest {
    private static final Checks CHECKS = new Checks();

    public static void main(String[] args) {
        lend();
        owed();
        rings();
        ringsOfTwo();
        cleared();
        payments();
        CHECKS.finish();
    }

    private static NeverHalf families(int n) {
        return Checks.told("family 1 flour 500;".repeat(n));
    }

    private static void lend() {
        NeverHalf x = families(3);
        CHECKS.due("no such", -2, x.lend(0, 3, 1));
        CHECKS.due("no such", -2, x.lend(-1, 0, 1));
        CHECKS.due("both one", -2, x.lend(1, 1, 1));
        CHECKS.due("0", -3, x.lend(0, 1, 0));
        CHECKS.due("below 0", -3, x.lend(0, 1, -5));
        CHECKS.due("above its flour", -3, x.lend(0, 1, 501));
        CHECKS.due("above 999", -4, x.lend(0, 1, 500));
        CHECKS.due("up to 999", 499, x.lend(0, 1, 499));
        CHECKS.due("giver", 1, x.family(0, 1));
        CHECKS.due("getter", 999, x.family(1, 1));
        CHECKS.due("back", 0, x.lend(1, 0, 400));
        CHECKS.due("what is left", 99, x.owed(1, 0));
        CHECKS.due("more than back", 51, x.lend(1, 0, 150));
        CHECKS.due("nothing is left", 0, x.owed(1, 0));
        CHECKS.due("the other way", 51, x.owed(0, 1));
        CHECKS.due("all", 51, x.count(13));
    }

    private static void owed() {
        NeverHalf x = families(2);
        x.lend(0, 1, 5);
        CHECKS.due("owed(1, 0)", 5, x.owed(1, 0));
        CHECKS.due("owed(0, 1)", 0, x.owed(0, 1));
        CHECKS.due("owed(0, 0)", 0, x.owed(0, 0));
        CHECKS.due("owed(2, 0)", -2, x.owed(2, 0));
        CHECKS.due("owed(0, -1)", -2, x.owed(0, -1));
    }

    /** debtor, creditor, how much */
    private static void owe(NeverHalf x, int... debts) {
        for (int i = 0; i + 2 < debts.length; i += 3) {
            x.lend(debts[i + 1], debts[i], debts[i + 2]);
        }
    }

    private static void ringIs(String name, NeverHalf x, int... ring) {
        CHECKS.due(name + " ring(-1)", ring.length == 0 ? -1 : ring.length, x.ring(-1));
        for (int k = 0; k < ring.length; k++) {
            CHECKS.due(name + " ring(" + k + ")", ring[k], x.ring(k));
        }
        CHECKS.due(name + " not so many", -1, x.ring(ring.length));
        CHECKS.due(name + " below NONE", -1, x.ring(-2));
    }

    private static void rings() {
        NeverHalf x = families(7);
        ringIs("none", x);
        owe(x, 0, 1, 5, 1, 2, 5);
        ringIs("a chain", x);
        owe(x, 4, 5, 5, 5, 6, 5, 6, 4, 5);
        ringIs("a chain ahead", x, 4, 5, 6);
        owe(x, 2, 6, 1, 5, 3, 1, 3, 1, 1);
        ringIs("the least family, though in a longer ring", x, 1, 2, 6, 4, 5, 3);
        owe(x, 2, 3, 1);
        ringIs("the fewest", x, 1, 2, 3);
        owe(x, 1, 0, 1);
        ringIs("lending back is no ring", x, 1, 2, 3);
        NeverHalf y = families(6);
        owe(y, 0, 4, 1, 4, 1, 1, 1, 0, 1, 0, 2, 1, 2, 5, 1, 5, 0, 1, 2, 3, 1, 3, 0, 1);
        ringIs("the first by numbers", y, 0, 2, 3);
    }

    private static void ringsOfTwo() {
        NeverHalf x = families(3);
        owe(x, 0, 1, 5, 2, 0, 3);
        x.marry(1, 2);
        ringIs("each way as it is", x, 0, 1);
        CHECKS.due("lent: what it owes back is made up first", 5, x.lend(1, 0, 2));
        CHECKS.due("what is left of it", 1, x.owed(1, 0));
        CHECKS.due("clear", 1, x.clear());
        CHECKS.due("what is left", 4, x.owed(0, 1));
        CHECKS.due("nothing the other way", 0, x.owed(1, 0));
    }

    private static void cleared() {
        NeverHalf x = families(5);
        CHECKS.due("none", 0, x.clear());
        owe(x, 0, 1, 9, 1, 2, 4, 2, 0, 6, 1, 3, 3, 3, 0, 2);
        CHECKS.due("two rings", 2, x.clear());
        ringIs("no ring is left", x);
        CHECKS.due("0 to 1", 3, x.owed(0, 1));
        CHECKS.due("1 to 2", 0, x.owed(1, 2));
        CHECKS.due("2 to 0", 2, x.owed(2, 0));
        CHECKS.due("1 to 3", 1, x.owed(1, 3));
        CHECKS.due("3 to 0", 0, x.owed(3, 0));
        CHECKS.due("all", 6, x.count(13));
        CHECKS.due("no more", 0, x.clear());
    }

    private static void payments() {
        CHECKS.due("no families", 0, new NeverHalf().payments());
        NeverHalf x = families(6);
        CHECKS.due("no debts", 0, x.payments());
        owe(x, 0, 1, 5, 1, 2, 5, 2, 3, 5);
        CHECKS.due("a chain is one payment", 1, x.payments());
        owe(x, 4, 5, 7);
        CHECKS.due("two pairs", 2, x.payments());
        owe(x, 3, 4, 1);
        CHECKS.due("four in one", 3, x.payments());
        NeverHalf ring = families(3);
        owe(ring, 0, 1, 5, 1, 2, 5, 2, 0, 5);
        CHECKS.due("a ring is none", 0, ring.payments());
        NeverHalf greedy = families(5);
        owe(greedy, 0, 3, 6, 1, 3, 1, 1, 4, 3, 2, 4, 5);
        CHECKS.due("balances -6 -4 -5 7 8", 4, greedy.payments());
        NeverHalf split = families(6);
        owe(split, 0, 3, 5, 1, 3, 4, 1, 4, 2, 2, 4, 4, 2, 5, 3);
        CHECKS.due("balances -5 -6 -7 9 6 3", 4, split.payments());
    }
}
