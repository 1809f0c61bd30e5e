/** Promises 23 to 31: groups that fill an oven, who is served, parted, stones, who would leave. */
final class GroupTest {
    private static final Checks CHECKS = new Checks();

    public static void main(String[] args) {
        groups();
        fills();
        served();
        servedAmongLikeOnes();
        parted();
        partedTooMany();
        together();
        stones();
        leaves();
        stable();
        better();
        CHECKS.finish();
    }

    private static void groups() {
        NeverHalf x = Checks.told("family 1 wish 5;family 1 wish 3;family 1 wish 2;family 1;family 1 wish 2;"
                + "oven 5;oven 7;oven 60;quarrel 1 2;");
        int[] five = {1, 18};
        int[] seven = {5, 17};
        CHECKS.due("how many of 5", five.length, x.group(0, -1));
        CHECKS.due("how many of 7", seven.length, x.group(1, -1));
        for (int k = 0; k < 2; k++) {
            CHECKS.due("group(0, " + k + ")", five[k], x.group(0, k));
            CHECKS.due("group(1, " + k + ")", seven[k], x.group(1, k));
        }
        CHECKS.due("not so many", -1, x.group(0, 2));
        CHECKS.due("below NONE", -1, x.group(0, -2));
        CHECKS.due("none of 60", 0, x.group(2, -1));
        CHECKS.due("the first of none", -1, x.group(2, 0));
        CHECKS.due("no such oven", -2, x.group(3, -1));
        CHECKS.due("no such oven", -2, x.group(-1, 0));
    }

    private static void fills() {
        NeverHalf x = Checks.told("family 1 wish 5;family 1 wish 3;family 1 wish 2;family 1;"
                + "oven 5;oven 7;oven 5;quarrel 1 2;");
        CHECKS.due("ovens of like sizes", 5, x.fills(1));
        CHECKS.due("5 and 2", 2, x.fills(5));
        CHECKS.due("a quarrel", 0, x.fills(6));
        CHECKS.due("with one that has no wish", 0, x.fills(9));
        CHECKS.due("none", 0, x.fills(0));
        CHECKS.due("others", -3, x.fills(16));
        CHECKS.due("below 0", -3, x.fills(-1));
    }

    private static void served() {
        NeverHalf x = Checks.told("family 1 wish 5;family 1 wish 5;family 1 wish 5;family 1 wish 10;oven 10;");
        CHECKS.due("most families", 3, x.served(0));
        CHECKS.due("groups", 2, x.served(1));
        CHECKS.due("the least set", 11, x.served(2));
        CHECKS.due("served(3)", -2, x.served(3));
        CHECKS.due("served(-1)", -2, x.served(-1));
        NeverHalf none = Checks.told("family 1 wish 5;oven 10;");
        for (int what = 0; what < 3; what++) {
            CHECKS.due("none is served", 0, none.served(what));
        }
    }

    private static void servedAmongLikeOnes() {
        NeverHalf x = Checks.told("family 1 wish 2;family 1 wish 2;family 1 wish 4;family 1 wish 4;oven 4;oven 8;");
        CHECKS.due("all", 4, x.served(0));
        CHECKS.due("the fewest groups", 2, x.served(1));
        NeverHalf y = Checks.told("family 1 wish 6;family 1 wish 6;family 1 wish 3;family 1 wish 3;family 1 wish 3;"
                + "oven 6;oven 9;");
        CHECKS.due("of 5 all", 5, y.served(0));
        CHECKS.due("6 3, 6 and 3 3, or 6 3, 6, ..", 3, y.served(1));
        NeverHalf z = Checks.told("family 1 wish 1;family 1 wish 2;family 1 wish 1;family 1 wish 3;oven 3;oven 4;"
                + "quarrel 0 2;quarrel 1 3;");
        CHECKS.due("z families", 4, z.served(0));
        CHECKS.due("z groups", 2, z.served(1));
        CHECKS.due("z set", 15, z.served(2));
    }

    private static void parted() {
        CHECKS.due("no families", 1, new NeverHalf().parted());
        CHECKS.due("no ovens", 0, Checks.told("family 1 wish 1;").parted());
        CHECKS.due("pairs of four", 3, Checks.told("family 1 wish 1;".repeat(4) + "oven 2;").parted());
        CHECKS.due("whichever oven", 3, Checks.told("family 1 wish 1;".repeat(4) + "oven 2;oven 2;").parted());
        CHECKS.due("by any size", 15, Checks.told("family 1 wish 1;".repeat(4) + "oven 1;oven 2;oven 3;").parted()
                + Checks.told("family 1 wish 1;".repeat(4) + "oven 4;").parted());
        CHECKS.due("one has none", 1, Checks.told("family 1 wish 1;family 1;family 1 wish 1;oven 2;").parted());
        CHECKS.due("a quarrel", 2, Checks.told("family 1 wish 1;".repeat(4) + "oven 2;quarrel 0 1;").parted());
        CHECKS.due("eight", 105, Checks.told("family 1 wish 1;".repeat(8) + "family 1;oven 2;").parted());
    }

    private static void partedTooMany() {
        NeverHalf x = Checks.told("family 1 wish 1;".repeat(9) + "family 1;oven 3;");
        CHECKS.due("nine", -4, x.parted());
        CHECKS.due("nine, together", -4, x.together(0));
        CHECKS.due("nine, one without a wish", -4, x.together(9));
        CHECKS.due("nine, no such", -2, x.together(10));
    }

    private static void together() {
        NeverHalf x = Checks.told("family 1 wish 1;family 1 wish 1;family 1 wish 4;family 1 wish 1;family 1;"
                + "oven 5;oven 2;quarrel 0 2;");
        CHECKS.due("ways", 2, x.parted());
        CHECKS.due("with 0", 0, x.together(0));
        CHECKS.due("with 2", 0, x.together(2));
        CHECKS.due("no wish", 0, x.together(4));
        CHECKS.due("no such", -2, x.together(5));
        CHECKS.due("no such", -2, x.together(-1));
        x.fallOut(1, 2);
        CHECKS.due("with 0 then", 2, x.together(0));
        CHECKS.due("with 3 then", 4, x.together(3));
        x.wish(4, 9);
        CHECKS.due("can't be parted", 0, x.parted());
        CHECKS.due("can't be parted", 0, x.together(0));
    }

    private static void stones() {
        NeverHalf x = Checks.told("family 1 wish 6;family 1 wish 4;family 1 wish 5;family 1 wish 5;family 1;"
                + "oven 10;oven 5;quarrel 0 1;");
        CHECKS.due("fires", 3, x.stones(0, 0));
        CHECKS.due("stones", 10, x.stones(0, 1));
        x.fallOut(0, 1);
        CHECKS.due("fires", 2, x.stones(0, 0));
        CHECKS.due("stones", 0, x.stones(0, 1));
        CHECKS.due("a wish above its size", -1, x.stones(1, 0));
        CHECKS.due("a wish above its size", -1, x.stones(1, 1));
        CHECKS.due("what, ahead of it", -2, x.stones(1, 2));
        CHECKS.due("what", -2, x.stones(0, -1));
        CHECKS.due("no such oven", -2, x.stones(2, 0));
        CHECKS.due("no wishes", 0, Checks.told("family 1;oven 5;").stones(0, 1));
    }

    private static void leaves() {
        NeverHalf x = Checks.told("family 1 wish 7;family 1 wish 13;family 1 wish 6;oven 20;oven 13;quarrel 1 2;");
        CHECKS.due("one of two", 1, x.leaves(1, 5));
        CHECKS.due("alone", 2, x.leaves(1, 2));
        CHECKS.due("none", 0, x.leaves(0, 3));
        CHECKS.due("no group of it", -5, x.leaves(0, 5));
        CHECKS.due("the empty set", -5, x.leaves(0, 0));
        CHECKS.due("others", -5, x.leaves(0, 8));
        CHECKS.due("below 0", -5, x.leaves(0, -1));
        CHECKS.due("no such oven", -2, x.leaves(2, 3));
        NeverHalf y = Checks.told("fuel 0;family 1 wish 7;family 1 wish 13;oven 20;oven 7;");
        CHECKS.due("without fuel none pays less", 0, y.leaves(1, 1));
        NeverHalf z = Checks.told("fuel 1;family 1 wish 7;family 1 wish 13;oven 20;oven 7;");
        CHECKS.due("cut", 1, z.leaves(1, 1));
        NeverHalf w = Checks.told("family 1 wish 5;family 1 wish 20;oven 5;oven 25;oven 20;");
        CHECKS.due("one outside pays less than fuel", 1, w.leaves(0, 1));
        CHECKS.due("the other one of its own oven", 2, w.leaves(2, 2));
        NeverHalf v = Checks.told("fuel 1;family 1 wish 1;family 1 wish 6;family 1 wish 1;oven 2;oven 7;");
        CHECKS.due("one that pays 0 gains nothing", 0, v.leaves(0, 5));
    }

    private static void stable() {
        NeverHalf x = Checks.told("family 1 wish 7;family 1 wish 13;family 1 wish 6;family 1 wish 13;"
                + "oven 20;oven 13;quarrel 1 2;");
        CHECKS.due("how many of 20", 2, x.stable(0, -1));
        CHECKS.due("the first", 3, x.stable(0, 0));
        CHECKS.due("the second", 9, x.stable(0, 1));
        CHECKS.due("not so many", -1, x.stable(0, 2));
        CHECKS.due("how many of 13", 0, x.stable(1, -1));
        CHECKS.due("the first of none", -1, x.stable(1, 0));
        CHECKS.due("no such oven", -2, x.stable(2, 0));
        x.fallOut(0, 1);
        x.fallOut(0, 3);
        CHECKS.due("none can leave", 3, x.stable(1, -1));
        CHECKS.due("least set first", 2, x.stable(1, 0));
        CHECKS.due("least set first", 5, x.stable(1, 1));
    }

    private static void better() {
        NeverHalf x = Checks.told("family 1 wish 4;family 1 wish 3;family 1;oven 5;oven 9;");
        CHECKS.due("which", 2, x.better(0));
        CHECKS.due("wish", 2, x.better(1));
        CHECKS.due("how many", 3, x.better(2));
        CHECKS.due("better(3)", -2, x.better(3));
        CHECKS.due("better(-1)", -2, x.better(-1));
        CHECKS.due("nothing was changed", 7, x.count(7));
        x.wish(2, 2);
        CHECKS.due("all are served, by 9", 3, x.served(0));
        CHECKS.due("none", -1, x.better(0));
        CHECKS.due("no wish", -1, x.better(1));
        CHECKS.due("now", 3, x.better(2));
        NeverHalf y = Checks.told("family 1;family 1;oven 60;oven 3;");
        CHECKS.due("one without a wish", 0, y.better(0));
        CHECKS.due("the least wish", 3, y.better(1));
        CHECKS.due("one", 1, y.better(2));
        NeverHalf z = Checks.told("family 1 wish 5;family 1 wish 2;family 1 wish 2;oven 5;quarrel 1 2;");
        CHECKS.due("the first of 0 and 1, which let as many", 0, z.better(0));
        CHECKS.due("its wish", 3, z.better(1));
        CHECKS.due("how many", 2, z.better(2));
        NeverHalf w = Checks.told("family 1 wish 5;family 1 wish 2;oven 5;quarrel 0 1;");
        CHECKS.due("not with a quarrel", 1, w.better(0));
        CHECKS.due("alone", 5, w.better(1));
    }
}
