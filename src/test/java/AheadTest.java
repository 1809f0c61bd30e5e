/** Promises 37 to 39: days ahead for the village as one, marriages. */
final class AheadTest {
    private static final Checks CHECKS = new Checks();

    public static void main(String[] args) {
        refused();
        ahead();
        staleAheadOfFires();
        enough();
        marry();
        marryBounds();
        marryDebts();
        marryQuarrels();
        CHECKS.finish();
    }

    private static void refused() {
        NeverHalf none = Checks.told("family 1;");
        CHECKS.due("no ovens", -5, none.ahead(1, 0));
        CHECKS.due("no ovens, ahead of NONE", -5, none.ahead(1, 11));
        CHECKS.due("n, ahead of no ovens", -3, none.ahead(8, 0));
        CHECKS.due("what, ahead of n", -2, none.ahead(8, 3));
        CHECKS.due("no ovens", -5, none.enough(1));
        CHECKS.due("n, ahead of no ovens", -3, none.enough(0));
        NeverHalf x = Checks.told("family 1;oven 2;");
        int[] wrong = {-1, 3, 9, 17, Integer.MAX_VALUE, Integer.MIN_VALUE};
        for (int what : wrong) {
            CHECKS.due("ahead(1, " + what + ")", -2, x.ahead(1, what));
        }
        CHECKS.due("ahead(0, 0)", -3, x.ahead(0, 0));
        CHECKS.due("ahead(0, 10)", -3, x.ahead(0, 10));
        CHECKS.due("ahead(8, 16)", -3, x.ahead(8, 16));
        CHECKS.due("ahead(6, 16)", -1, x.ahead(6, 16));
        CHECKS.due("ahead(7, 16)", 1, x.ahead(7, 16));
        CHECKS.due("ahead(1, 11)", -1, x.ahead(1, 11));
        CHECKS.due("enough(8)", -3, x.enough(8));
        CHECKS.due("enough(-1)", -3, x.enough(-1));
    }

    private static void planIs(String name, NeverHalf x, int hunger, int stale, int... plan) {
        int all = 0;
        for (int k = 0; k < plan.length; k++) {
            all += plan[k];
            CHECKS.due(name + " day " + k, plan[k], x.ahead(plan.length, 10 + k));
        }
        CHECKS.due(name + " hunger", hunger, x.ahead(plan.length, 0));
        CHECKS.due(name + " stale", stale, x.ahead(plan.length, 1));
        CHECKS.due(name + " fires", all, x.ahead(plan.length, 2));
    }

    private static void ahead() {
        NeverHalf x = Checks.told("family 2 flour 0;family 3 flour 0;oven 10;oven 60;quarrel 0 1;");
        planIs("a fire for two days", x, 0, 0, 1, 0, 1, 0);
        planIs("the first of like rows", x, 0, 0, 1, 0, 1);
        NeverHalf hungry = Checks.told("family 30;oven 10;");
        planIs("two fires at most", hungry, 30, 0, 2, 2, 2);
        NeverHalf bread = Checks.told("family 5 bread 0 5 5;oven 5;");
        planIs("bread that is there", bread, 0, 0, 0, 0, 1);
        NeverHalf none = Checks.told("oven 5;");
        planIs("nobody eats", none, 0, 0, 0, 0, 0, 0, 0, 0, 0);
        NeverHalf own = Checks.told("family 1 bread 9;family 8;oven 10;");
        planIs("all bread is everybody's", own, 0, 0, 0, 1);
    }

    private static void staleAheadOfFires() {
        NeverHalf x = Checks.told("keep 1;family 7;oven 4;");
        planIs("least hunger, though stale", x, 0, 2, 2, 2);
        NeverHalf y = Checks.told("keep 2;family 3;oven 5;");
        planIs("what is left over goes stale", y, 0, 1, 1, 1, 0, 1);
    }

    private static void enough() {
        NeverHalf x = Checks.told("family 5;oven 10;");
        CHECKS.due("1 day", 1, x.enough(1));
        CHECKS.due("2 days", 1, x.enough(2));
        CHECKS.due("7 days", 4, x.enough(7));
        CHECKS.due("it can't be", -1, Checks.told("family 21;oven 10;").enough(1));
        CHECKS.due("none is needed", 0, Checks.told("family 5 bread 5;oven 10;").enough(1));
        CHECKS.due("stale doesn't matter", 1, Checks.told("family 2 bread 1;oven 60;").enough(3));
        CHECKS.due("nobody", 0, Checks.told("oven 10;").enough(7));
    }

    private static void marry() {
        NeverHalf x = Checks.told("keep 2;family 1 flour 5 bread 1 2 wish 3;family 9 flour 70;"
                + "family 4 flour 6 bread 10 20 wish 30;family 8 flour 80;oven 3;oven 30;");
        x.fireWishes(0, 1);
        x.fireWishes(1, 4);
        CHECKS.due("flour lacks", -2, x.fireWishes(2, 4));
        x.mill(2, 100);
        CHECKS.due("fuel", 20, x.fireWishes(1, 4));
        x.day();
        x.day();
        int hunger = x.family(0, 5) + x.family(2, 5);
        int stale = x.family(0, 6) + x.family(2, 6);
        CHECKS.due("no such", -2, x.marry(0, 4));
        CHECKS.due("no such", -2, x.marry(-1, 0));
        CHECKS.due("both one", -2, x.marry(2, 2));
        CHECKS.due("families then", 3, x.marry(2, 0));
        CHECKS.due("eats", 5, x.family(0, 0));
        CHECKS.due("flour", 2 + 76, x.family(0, 1));
        CHECKS.due("fuel", 40, x.family(0, 4));
        CHECKS.due("hunger", hunger, x.family(0, 5));
        CHECKS.due("stale", stale, x.family(0, 6));
        CHECKS.due("the one between", 9, x.family(1, 0));
        CHECKS.due("the one behind is one less", 8, x.family(2, 0));
        CHECKS.due("its flour", 80, x.family(2, 1));
        CHECKS.due("no more", -2, x.family(3, 0));
        CHECKS.due("lines stay", 7, x.count(12));
    }

    private static void marryBounds() {
        NeverHalf x = Checks.told("family 20 flour 600 bread 60 40 wish 60;family 20 flour 600 bread 60 40 wish 60;");
        CHECKS.due("one", 1, x.marry(0, 1));
        int[] due = {30, 999, 99 + 80, 99, 0, 0, 0};
        for (int what = 0; what < due.length; what++) {
            CHECKS.due("family(0, " + what + ")", due[what], x.family(0, what));
        }
        CHECKS.due("bread of age 0", 99, x.family(0, 10));
        CHECKS.due("bread of age 1", 80, x.family(0, 11));
    }

    private static void marryDebts() {
        NeverHalf x = Checks.told("family 1;family 1;family 1;family 1;");
        x.lend(1, 3, 5);
        x.lend(0, 1, 4);
        x.lend(2, 3, 3);
        x.lend(3, 0, 2);
        CHECKS.due("families", 3, x.marry(3, 1));
        CHECKS.due("what they owed one another is gone", 0, x.owed(1, 1));
        CHECKS.due("1 owes 0", 4, x.owed(1, 0));
        CHECKS.due("0 owes 1, each way as it is", 2, x.owed(0, 1));
        CHECKS.due("1 owes 2", 3, x.owed(1, 2));
        CHECKS.due("all", 9, x.count(13));
        CHECKS.due("balance of 1", -5, x.family(1, 7));
    }

    private static void marryQuarrels() {
        NeverHalf x = Checks.told("family 1;family 1;family 1;family 1;family 1;family 1;"
                + "quarrel 1 3;quarrel 2 5;quarrel 3 4;quarrel 0 5;");
        CHECKS.due("they quarrel", -5, x.marry(3, 1));
        CHECKS.due("families", 5, x.marry(1, 2));
        int[][] due = {{0, 4}, {1, 2}, {1, 4}, {2, 3}};
        int all = 0;
        for (int f = 0; f < 5; f++) {
            for (int g = f + 1; g < 5; g++) {
                all += x.quarrel(f, g) + x.quarrel(g, f);
            }
        }
        CHECKS.due("how many", 2 * due.length, all);
        for (int[] pair : due) {
            CHECKS.due("quarrel of " + pair[0] + " and " + pair[1], 1, x.quarrel(pair[0], pair[1]));
        }
    }
}
