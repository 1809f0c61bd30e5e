/** The edges of promises 23 to 31: groups, who is served, parted, stones, who would leave, a better wish. */
final class EdgeGroupTest {
    private static final Checks CHECKS = new Checks();
    private static final int[] FAR = {Integer.MIN_VALUE, Integer.MAX_VALUE};
    private static final String SOME = "family 1 wish 5;family 1 wish 3;family 1 wish 2;family 1;family 1 wish 2;"
            + "oven 5;oven 7;oven 60;quarrel 1 2;";

    public static void main(String[] args) {
        groupWhich();
        groupKth();
        groupOfTen();
        groupBySize();
        fillsSets();
        fillsEachSet();
        fillsLikeOvens();
        servedWhats();
        servedOfLikeOnes();
        servedByFewestGroups();
        wishesThatChange();
        groupsThatAreNoMore();
        partedEight();
        partedWays();
        togetherWhich();
        togetherTooMany();
        stonesWhich();
        stonesBySize();
        stonesOfTen();
        leavesWhich();
        leavesForLess();
        stableWhich();
        stableKth();
        betterWhats();
        betterBounds();
        betterOfLikeOnes();
        CHECKS.finish();
    }

    private static Twins told(String text) {
        return new Twins(CHECKS, text);
    }

    private static void groupWhich() {
        Twins rich = Twins.rich(CHECKS);
        int[] only = {3, 4, 6};
        for (int o = 0; o < 3; o++) {
            rich.asks(1, "group", o, -1);
            rich.asks(only[o], "group", o, 0);
            rich.asks(-1, "group", o, 1);
        }
        int[] ks = {-2, -1, 0, 1};
        for (int k : ks) {
            rich.refused(-2, "group", 3, k);
            rich.refused(-2, "group", -1, k);
            for (int far : FAR) {
                rich.refused(-2, "group", far, k);
            }
        }
    }

    private static void groupKth() {
        Twins some = told(SOME);
        int[][] due = {{1, 18}, {5, 17}, {}};
        for (int o = 0; o < 3; o++) {
            some.asks(due[o].length, "group", o, -1);
            for (int k = 0; k < due[o].length; k++) {
                some.asks(due[o][k], "group", o, k);
            }
            some.asks(-1, "group", o, due[o].length);
            some.asks(-1, "group", o, due[o].length + 1);
            some.asks(-1, "group", o, -2);
            for (int far : FAR) {
                some.asks(-1, "group", o, far);
            }
        }
    }

    private static void groupOfTen() {
        Twins all = told("family 1 wish 6;".repeat(10) + "oven 60;oven 6;oven 54;");
        all.asks(1, "group", 0, -1);
        all.asks(1023, "group", 0, 0);
        all.asks(-1, "group", 0, 1);
        all.asks(10, "group", 1, -1);
        all.asks(512, "group", 1, 9);
        all.asks(10, "group", 2, -1);
        all.asks(511, "group", 2, 0);
        all.asks(1022, "group", 2, 9);
        Twins five = told("family 1 wish 1;".repeat(10) + "oven 5;");
        five.asks(252, "group", 0, -1);
        five.asks(31, "group", 0, 0);
        five.asks(47, "group", 0, 1);
        five.asks(992, "group", 0, 251);
        five.asks(-1, "group", 0, 252);
    }

    private static void groupBySize() {
        String pair = "family 1 wish 30;family 1 wish 29;";
        told(pair + "oven 58;").asks(0, "group", 0, -1);
        told(pair + "oven 59;").asks(1, "group", 0, -1);
        told(pair + "oven 60;").asks(0, "group", 0, -1);
        told("family 1 wish 1;oven 1;").asks(1, "group", 0, 0);
        told("family 1 wish 0;oven 1;").asks(0, "group", 0, -1);
        told("family 1 wish 60;oven 60;").asks(1, "group", 0, 0);
        told("family 1 wish 61;oven 60;").asks(0, "group", 0, -1);
        told("family 1 flour 0 wish 9;oven 9;").asks(1, "group", 0, 0);
        told("oven 9;").asks(0, "group", 0, -1);
        told("oven 9;").asks(-1, "group", 0, 0);
    }

    private static void fillsSets() {
        Twins rich = Twins.rich(CHECKS);
        rich.asks(0, "fills", 0);
        rich.asks(1, "fills", 3);
        rich.asks(0, "fills", 15);
        rich.refused(-3, "fills", 16);
        rich.refused(-3, "fills", 19);
        rich.refused(-3, "fills", -1);
        for (int far : FAR) {
            rich.refused(-3, "fills", far);
        }
        Twins ten = told("family 1 wish 6;".repeat(10) + "oven 60;");
        ten.asks(1, "fills", 1023);
        ten.asks(0, "fills", 1022);
        ten.refused(-3, "fills", 1024);
        told("oven 5;").asks(0, "fills", 0);
        told("oven 5;").refused(-3, "fills", 1);
    }

    private static void fillsEachSet() {
        NeverHalf x = Checks.told(SOME);
        for (int set = 0; set < 32; set++) {
            int due = set == 1 || set == 18 ? 1 : set == 5 || set == 17 ? 2 : 0;
            CHECKS.due("fills(" + set + ")", due, x.fills(set));
        }
    }

    private static void fillsLikeOvens() {
        told("family 1 wish 5;oven 5;oven 5;oven 5;").asks(7, "fills", 1);
        told("family 1 wish 5;oven 5;oven 4;oven 5;").asks(5, "fills", 1);
        told("family 1 wish 5;oven 4;oven 6;oven 5;").asks(4, "fills", 1);
        told("family 1 wish 5;").asks(0, "fills", 1);
    }

    private static void servedWhats() {
        Twins rich = Twins.rich(CHECKS);
        int[] due = {3, 2, 7};
        for (int what = 0; what < 3; what++) {
            rich.asks(due[what], "served", what);
        }
        rich.refused(-2, "served", -1);
        rich.refused(-2, "served", 3);
        for (int far : FAR) {
            rich.refused(-2, "served", far);
        }
        new Twins(CHECKS, NeverHalf::new).refused(-2, "served", 3);
    }

    private static void servedIs(String text, int families, int groups, int set) {
        told(text).asks(families, "served", 0);
        told(text).asks(groups, "served", 1);
        told(text).asks(set, "served", 2);
    }

    private static void servedOfLikeOnes() {
        servedIs("family 1 wish 5;family 1 wish 5;family 1 wish 5;oven 10;", 2, 1, 3);
        servedIs("family 1 wish 5;family 1 wish 5;family 1 wish 5;oven 10;quarrel 0 1;", 2, 1, 5);
        servedIs("family 1 wish 5;family 1 wish 10;family 1 wish 5;family 1 wish 5;oven 10;", 3, 2, 7);
        servedIs("family 1 wish 4;family 1 wish 4;family 1 wish 3;family 1 wish 5;oven 4;oven 8;", 4, 2, 15);
        servedIs("family 1 wish 3;family 1 wish 3;family 1 wish 2;family 1 wish 4;oven 3;oven 6;quarrel 0 1;quarrel 0 2;"
                + "quarrel 0 3;quarrel 1 2;quarrel 1 3;", 4, 3, 15);
        servedIs("family 1 wish 2;family 1 wish 2;family 1 wish 1;family 1 wish 3;oven 2;oven 4;quarrel 0 1;quarrel 0 2;"
                + "quarrel 1 2;quarrel 0 3;quarrel 1 3;", 4, 3, 15);
        servedIs("family 1 wish 9;family 1 wish 9;family 1 wish 4;family 1 wish 5;oven 9;quarrel 2 3;", 2, 2, 3);
        servedIs("family 1 wish 9;family 1 wish 8;family 1 wish 4;family 1 wish 5;oven 9;oven 8;quarrel 2 3;", 2, 2, 3);
        servedIs("family 1 wish 9;family 1 wish 7;family 1 wish 4;family 1 wish 5;oven 9;quarrel 0 1;", 3, 2, 13);
        servedIs("family 1 wish 9;family 1 wish 6;family 1 wish 3;family 1 wish 60;oven 9;oven 60;quarrel 0 3;", 4, 3, 15);
        servedIs("family 1 wish 4;family 1 wish 6;family 1 wish 5;family 1 wish 5;oven 4;oven 6;oven 10;quarrel 0 1;", 4, 3, 15);
        servedIs("family 1 wish 6;".repeat(10) + "oven 60;oven 6;", 10, 1, 1023);
        servedIs("family 1 wish 6;".repeat(10) + "oven 6;", 10, 10, 1023);
        servedIs("family 1 wish 6;".repeat(10) + "oven 54;", 9, 1, 511);
        servedIs("family 1 wish 99;oven 60;", 0, 0, 0);
    }

    /** 10 13 and 9 14 by 23 are as many as 10 9 2 30 by 51, in more groups. */
    private static void servedByFewestGroups() {
        String six = "family 1 wish 10;family 1 wish 13;family 1 wish 9;family 1 wish 14;family 1 wish 2;"
                + "family 1 wish 30;";
        servedIs(six + "oven 23;", 4, 2, 15);
        servedIs(six + "oven 51;", 4, 1, 53);
        servedIs(six + "oven 23;oven 51;", 4, 1, 53);
        servedIs(six + "oven 51;oven 23;quarrel 4 5;", 4, 2, 15);
        servedIs("family 1 wish 5;oven 5;", 1, 1, 1);
        servedIs("family 1 wish 6;family 1 wish 5;oven 5;", 1, 1, 2);
    }

    /** Nothing is kept of what was found for other wishes. */
    private static void wishesThatChange() {
        NeverHalf x = Checks.told("family 1 wish 5;family 1 wish 3;family 1 wish 2;oven 10;oven 5;");
        int[] wishes = {5, 0, 5, 1, 0, 5, 99, 5};
        int[] served = {3, 2, 3, 2, 2, 3, 2, 3};
        int[] groups = {1, 1, 1, 1, 1, 1, 1, 1};
        int[] sets = {7, 6, 7, 6, 6, 7, 6, 7};
        int[] parted = {2, 1, 2, 0, 1, 2, 0, 2};
        int[] together = {4, 4, 4, 0, 4, 4, 0, 4};
        int[] tens = {1, 0, 1, 0, 0, 1, 0, 1};
        int[] fires = {2, 1, 2, 2, 1, 2, -1, 2};
        for (int i = 0; i < wishes.length; i++) {
            x.wish(0, wishes[i]);
            CHECKS.due(i + " served(0)", served[i], x.served(0));
            CHECKS.due(i + " served(1)", groups[i], x.served(1));
            CHECKS.due(i + " served(2)", sets[i], x.served(2));
            CHECKS.due(i + " parted()", parted[i], x.parted());
            CHECKS.due(i + " together(1)", together[i], x.together(1));
            CHECKS.due(i + " group(0, -1)", tens[i], x.group(0, -1));
            CHECKS.due(i + " stones(1, 0)", fires[i], x.stones(1, 0));
        }
        for (int f = 0; f < 3; f++) {
            x.wish(f, 0);
        }
        CHECKS.due("nobody is served", 0, x.served(0));
        CHECKS.due("no group", 0, x.served(1));
        CHECKS.due("nobody", 0, x.served(2));
        CHECKS.due("one way", 1, x.parted());
        CHECKS.due("no fire", 0, x.stones(0, 0));
    }

    private static void groupsThatAreNoMore() {
        NeverHalf x = Checks.told("family 1 wish 2;family 1 wish 2;family 1 wish 2;oven 6;oven 2;");
        CHECKS.due("each alone", 3, x.group(1, -1));
        x.wish(1, 0);
        x.wish(2, 4);
        CHECKS.due("0 and 2", 1, x.parted());
        CHECKS.due("always", 1, x.together(2));
        CHECKS.due("always", 4, x.together(0));
        CHECKS.due("two are served", 2, x.served(0));
        CHECKS.due("by one group", 1, x.served(1));
        NeverHalf all = Checks.told("family 1 wish 2;family 1 wish 2;family 1 wish 2;oven 6;");
        int[] wishes = {2, 1, 2, 3, 0, 2};
        int[] served = {3, 0, 3, 0, 0, 3};
        for (int i = 0; i < wishes.length; i++) {
            all.wish(2, wishes[i]);
            CHECKS.due("served " + i, served[i], all.served(0));
            CHECKS.due("parted " + i, served[i] / 3, all.parted());
        }
    }

    private static void partedEight() {
        String line = "family 1 wish 1;";
        told(line.repeat(8) + "oven 2;").asks(105, "parted");
        told(line.repeat(8) + "family 1;family 1;oven 2;").asks(105, "parted");
        told(line.repeat(8) + "oven 1;oven 2;oven 3;").asks(2780, "parted");
        told(line.repeat(8) + "oven 8;").asks(1, "parted");
        told(line.repeat(8) + "oven 9;").asks(0, "parted");
        told(line.repeat(9) + "oven 3;").refused(-4, "parted");
        told(line.repeat(9) + "family 1;oven 3;").refused(-4, "parted");
        told(line.repeat(10) + "oven 5;").refused(-4, "parted");
        told(line.repeat(9)).refused(-4, "parted");
    }

    private static void partedWays() {
        told("family 1;family 1;").asks(1, "parted");
        told("family 1 wish 1;").asks(0, "parted");
        told("family 1 wish 1;oven 1;").asks(1, "parted");
        told("family 1 wish 1;oven 1;oven 1;oven 1;").asks(1, "parted");
        told("family 1 wish 1;oven 2;").asks(0, "parted");
        told("family 1 wish 1;family 1 wish 1;oven 1;oven 2;").asks(2, "parted");
        told("family 1 wish 1;family 1 wish 1;oven 1;oven 2;quarrel 0 1;").asks(1, "parted");
        Twins.rich(CHECKS).asks(1, "parted");
    }

    private static void togetherWhich() {
        Twins rich = Twins.rich(CHECKS);
        int[] due = {2, 1, 0, 0};
        for (int f = 0; f < due.length; f++) {
            rich.asks(due[f], "together", f);
        }
        rich.refused(-2, "together", 4);
        rich.refused(-2, "together", -1);
        for (int far : FAR) {
            rich.refused(-2, "together", far);
        }
        Twins three = told("family 1 wish 1;family 1 wish 1;family 1 wish 1;family 1;oven 3;");
        int[] others = {6, 5, 3, 0};
        for (int f = 0; f < others.length; f++) {
            three.asks(others[f], "together", f);
        }
        Twins two = told("family 1 wish 1;family 1 wish 1;family 1 wish 1;oven 3;oven 1;");
        Twins not = told("family 1 wish 1;family 1 wish 1;family 1 wish 1;oven 2;");
        for (int f = 0; f < 3; f++) {
            two.asks(0, "together", f);
            not.asks(0, "together", f);
        }
    }

    private static void togetherTooMany() {
        String line = "family 1 wish 1;";
        Twins eight = told(line.repeat(8) + "family 1;oven 8;");
        eight.asks(254, "together", 0);
        eight.asks(127, "together", 7);
        eight.asks(0, "together", 8);
        eight.refused(-2, "together", 9);
        Twins nine = told(line.repeat(9) + "family 1;oven 9;");
        for (int f = 0; f < 10; f++) {
            nine.refused(-4, "together", f);
        }
        nine.refused(-2, "together", 10);
        nine.refused(-2, "together", -1);
    }

    private static void stonesWhich() {
        Twins rich = Twins.rich(CHECKS);
        int[][] due = {{2, 3}, {3, 6}, {2, 11}};
        for (int o = 0; o < 3; o++) {
            rich.asks(due[o][0], "stones", o, 0);
            rich.asks(due[o][1], "stones", o, 1);
            rich.refused(-2, "stones", o, -1);
            rich.refused(-2, "stones", o, 2);
        }
        for (int what = -1; what < 3; what++) {
            rich.refused(-2, "stones", 3, what);
            rich.refused(-2, "stones", -1, what);
        }
        for (int far : FAR) {
            rich.refused(-2, "stones", far, 0);
            rich.refused(-2, "stones", 0, far);
        }
    }

    private static void stonesAre(String text, int fires, int stones) {
        told(text).asks(fires, "stones", 0, 0);
        told(text).asks(stones, "stones", 0, 1);
    }

    private static void stonesBySize() {
        stonesAre("family 1 wish 7;oven 7;", 1, 0);
        stonesAre("family 1 wish 6;oven 7;", 1, 1);
        stonesAre("family 1 wish 1;oven 7;", 1, 6);
        stonesAre("family 1 wish 8;oven 7;", -1, -1);
        stonesAre("family 1 wish 7;family 1 wish 8;oven 7;", -1, -1);
        stonesAre("family 1 wish 99;oven 60;", -1, -1);
        stonesAre("family 1 wish 0;oven 7;", 0, 0);
        stonesAre("oven 7;", 0, 0);
        stonesAre("family 1 wish 3;family 1 wish 4;oven 7;", 1, 0);
        stonesAre("family 1 wish 3;family 1 wish 5;oven 7;", 2, 6);
        stonesAre("family 1 wish 3;family 1 wish 4;oven 7;quarrel 0 1;", 2, 7);
        told("family 1 wish 8;oven 7;").refused(-2, "stones", 0, 2);
        told("family 1 wish 8;oven 7;").refused(-2, "stones", 1, 0);
    }

    private static void stonesOfTen() {
        stonesAre("family 1 wish 6;".repeat(10) + "oven 60;", 1, 0);
        stonesAre("family 1 wish 6;".repeat(10) + "oven 59;", 2, 58);
        stonesAre("family 1 wish 6;".repeat(10) + "oven 11;", 10, 50);
        stonesAre("family 1 wish 6;".repeat(10) + "oven 12;quarrel 0 1;", 5, 0);
        stonesAre("family 1 wish 4;family 1 wish 4;family 1 wish 3;family 1 wish 3;family 1 wish 3;family 1 wish 3;"
                + "oven 10;", 2, 0);
    }

    private static void leavesWhich() {
        Twins rich = Twins.rich(CHECKS);
        rich.asks(2, "leaves", 0, 3);
        rich.asks(4, "leaves", 1, 4);
        rich.asks(0, "leaves", 2, 6);
        int[] none = {0, 1, 2, 4, 6, 7, 15, 16, 19, -1, Integer.MIN_VALUE, Integer.MAX_VALUE};
        for (int set : none) {
            rich.refused(-5, "leaves", 0, set);
            rich.refused(-2, "leaves", 3, set);
            rich.refused(-2, "leaves", -1, set);
        }
        rich.refused(-5, "leaves", 1, 3);
        rich.refused(-5, "leaves", 2, 3);
        for (int far : FAR) {
            rich.refused(-2, "leaves", far, 3);
        }
        Twins ten = told("family 1 wish 6;".repeat(10) + "oven 60;oven 6;");
        ten.asks(0, "leaves", 0, 1023);
        ten.asks(512, "leaves", 1, 512);
        ten.refused(-5, "leaves", 0, 1024);
        told("oven 5;").refused(-5, "leaves", 0, 0);
    }

    /** 1 by 11 and 1 by 12 of fuel: cut, they may be alike; who pays as much as now does not gain. */
    private static void leavesForLess() {
        String three = "family 1 wish 1;family 1 wish 10;family 1 wish 11;oven 11;oven 12;";
        int[] fuel = {0, 1, 11, 12, 20, 21, 22, 23, 24, 32, 33, 999};
        int[] first = {0, 0, 1, 0, 0, 0, 1, 1, 0, 0, 1, 1};
        for (int i = 0; i < fuel.length; i++) {
            String text = "fuel " + fuel[i] + ";" + three;
            told(text).asks(first[i], "leaves", 0, 3);
            told(text).asks(fuel[i] > 0 ? 4 : 0, "leaves", 0, 4);
            told(text).asks(0, "leaves", 1, 5);
        }
        told("family 1 wish 5;family 1 wish 5;oven 10;oven 5;").asks(1, "leaves", 1, 1);
        told("family 1 wish 5;family 1 wish 5;oven 10;oven 5;quarrel 0 1;").asks(0, "leaves", 1, 1);
        told("family 1 wish 5;family 1 wish 5;oven 10;oven 10;").asks(0, "leaves", 0, 3);
        told("family 1 wish 5;family 1 wish 5;family 1 wish 7;oven 5;oven 10;oven 12;").asks(1, "leaves", 0, 1);
        told("family 1 wish 5;family 1 wish 5;family 1 wish 5;oven 5;oven 10;").asks(1, "leaves", 0, 1);
        told("family 1 wish 5;family 1 wish 5;family 1 wish 5;oven 5;oven 10;oven 15;").asks(3, "leaves", 1, 3);
        told("family 1 wish 5;family 1 wish 5;family 1 wish 7;family 1 wish 10;oven 10;oven 12;oven 15;quarrel 1 2;"
                + "quarrel 1 3;").asks(1, "leaves", 0, 3);
    }

    private static void stableWhich() {
        Twins rich = Twins.rich(CHECKS);
        int[] many = {0, 0, 1};
        int[] first = {-1, -1, 6};
        for (int o = 0; o < 3; o++) {
            rich.asks(many[o], "stable", o, -1);
            rich.asks(first[o], "stable", o, 0);
            rich.asks(-1, "stable", o, 1);
            rich.asks(-1, "stable", o, -2);
            for (int far : FAR) {
                rich.asks(-1, "stable", o, far);
            }
        }
        for (int k = -2; k < 2; k++) {
            rich.refused(-2, "stable", 3, k);
            rich.refused(-2, "stable", -1, k);
            for (int far : FAR) {
                rich.refused(-2, "stable", far, k);
            }
        }
    }

    private static void stableKth() {
        Twins five = told("family 1 wish 1;".repeat(10) + "oven 5;");
        five.asks(252, "stable", 0, -1);
        five.asks(31, "stable", 0, 0);
        five.asks(992, "stable", 0, 251);
        five.asks(-1, "stable", 0, 252);
        Twins some = told("family 1 wish 5;family 1 wish 5;family 1 wish 5;family 1 wish 3;oven 5;oven 8;quarrel 0 3;"
                + "quarrel 2 3;");
        some.asks(3, "group", 0, -1);
        some.asks(2, "stable", 0, -1);
        some.asks(1, "stable", 0, 0);
        some.asks(4, "stable", 0, 1);
        some.asks(-1, "stable", 0, 2);
        some.asks(10, "stable", 1, 0);
    }

    private static void betterWhats() {
        Twins rich = Twins.rich(CHECKS);
        int[] due = {3, 3, 4};
        for (int what = 0; what < 3; what++) {
            rich.asks(due[what], "better", what);
        }
        rich.refused(-2, "better", -1);
        rich.refused(-2, "better", 3);
        for (int far : FAR) {
            rich.refused(-2, "better", far);
        }
        new Twins(CHECKS, NeverHalf::new).refused(-2, "better", 3);
    }

    private static void betterIs(String text, int family, int wish, int many) {
        told(text).asks(family, "better", 0);
        told(text).asks(wish, "better", 1);
        told(text).asks(many, "better", 2);
    }

    private static void betterBounds() {
        betterIs("family 1;", -1, -1, 0);
        betterIs("oven 5;", -1, -1, 0);
        betterIs("family 1;oven 1;", 0, 1, 1);
        betterIs("family 1 wish 99;oven 1;", 0, 1, 1);
        betterIs("family 1;oven 60;", 0, 60, 1);
        betterIs("family 1 wish 60;oven 60;", -1, -1, 1);
        betterIs("family 1 wish 5;family 1 wish 0;oven 5;quarrel 0 1;", 1, 5, 2);
        betterIs("family 1 wish 60;family 1 wish 1;oven 60;", 0, 59, 2);
        betterIs("family 1 wish 59;family 1;oven 60;", 1, 1, 2);
        betterIs("family 1 wish 6;".repeat(9) + "family 1;oven 60;", 9, 6, 10);
        betterIs("family 1 wish 6;".repeat(9) + "family 1 wish 99;oven 60;", 9, 6, 10);
        betterIs("family 1 wish 6;".repeat(10) + "oven 60;", -1, -1, 10);
    }

    private static void betterOfLikeOnes() {
        betterIs("family 1;family 1;oven 60;oven 3;oven 7;", 0, 3, 1);
        betterIs("family 1 wish 4;family 1 wish 4;oven 5;oven 6;oven 9;", 0, 1, 2);
        betterIs("family 1 wish 4;family 1 wish 4;oven 5;oven 6;oven 9;quarrel 0 1;", 0, 5, 1);
        betterIs("family 1 wish 7;family 1 wish 5;family 1;oven 5;oven 10;oven 15;quarrel 0 1;", 2, 3, 3);
        betterIs("family 1 wish 5;family 1 wish 5;family 1;oven 10;oven 20;quarrel 0 1;", 2, 5, 2);
    }
}
