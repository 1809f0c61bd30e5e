/** Promises 18 to 22: sums that full ovens bake. */
final class SumTest {
    private static final Checks CHECKS = new Checks();

    public static void main(String[] args) {
        withoutOvens();
        bounds();
        twoOvens();
        likeOvens();
        gaps();
        upTo();
        CHECKS.finish();
    }

    private static void withoutOvens() {
        NeverHalf x = new NeverHalf();
        CHECKS.due("canBake(0)", 1, x.canBake(0));
        CHECKS.due("canBake(1)", 0, x.canBake(1));
        CHECKS.due("fires(0)", 0, x.fires(0));
        CHECKS.due("fires(1)", -1, x.fires(1));
        CHECKS.due("ways(0)", 1, x.ways(0));
        CHECKS.due("ways(1)", 0, x.ways(1));
        CHECKS.due("gap()", -4, x.gap());
        CHECKS.due("upTo(0)", 0, x.upTo(0));
        CHECKS.due("upTo(1)", -1, x.upTo(1));
        CHECKS.due("upTo(1901)", -3, x.upTo(1901));
    }

    private static void bounds() {
        NeverHalf x = Checks.told("oven 1;");
        int[] wrong = {-1, 2001, Integer.MIN_VALUE, Integer.MAX_VALUE};
        for (int sum : wrong) {
            CHECKS.due("canBake", -3, x.canBake(sum));
            CHECKS.due("fires", -3, x.fires(sum));
            CHECKS.due("ways", -3, x.ways(sum));
            CHECKS.due("upTo", -3, x.upTo(sum));
        }
        CHECKS.due("canBake(2000)", 1, x.canBake(2000));
        CHECKS.due("fires(2000)", 2000, x.fires(2000));
        CHECKS.due("ways(2000)", 1, x.ways(2000));
    }

    private static void twoOvens() {
        NeverHalf x = Checks.told("oven 4;oven 7;");
        int[] can = {0, 4, 7, 8, 11, 12, 14, 15, 16};
        int at = 0;
        for (int sum = 0; sum < 17; sum++) {
            boolean due = can[at] == sum;
            CHECKS.due("canBake(" + sum + ")", due ? 1 : 0, x.canBake(sum));
            at += due ? 1 : 0;
        }
        CHECKS.due("fires(28)", 4, x.fires(28));
        CHECKS.due("fires(29)", 5, x.fires(29));
        CHECKS.due("fires(17)", -1, x.fires(17));
        CHECKS.due("ways(28)", 2, x.ways(28));
        CHECKS.due("ways(17)", 0, x.ways(17));
        NeverHalf greedy = Checks.told("oven 1;oven 15;oven 25;");
        CHECKS.due("not the greatest first", 2, greedy.fires(30));
    }

    private static void likeOvens() {
        NeverHalf x = Checks.told("oven 1;oven 1;oven 1;");
        CHECKS.due("unlike ovens of like sizes", 2003001, x.ways(2000));
        CHECKS.due("one loaf", 3, x.ways(1));
        CHECKS.due("fires", 5, x.fires(5));
    }

    private static void gaps() {
        CHECKS.due("4, 7", 17, Checks.told("oven 4;oven 7;").gap());
        CHECKS.due("7, 4", 17, Checks.told("oven 7;oven 4;").gap());
        CHECKS.due("1", -1, Checks.told("oven 1;").gap());
        CHECKS.due("9, 1", -1, Checks.told("oven 9;oven 1;").gap());
        CHECKS.due("2", -4, Checks.told("oven 2;").gap());
        CHECKS.due("6, 10", -4, Checks.told("oven 6;oven 10;").gap());
        CHECKS.due("6, 10, 15", 29, Checks.told("oven 6;oven 10;oven 15;").gap());
        CHECKS.due("2, 3", 1, Checks.told("oven 2;oven 3;").gap());
        CHECKS.due("7, 7, 4", 17, Checks.told("oven 7;oven 7;oven 4;").gap());
        CHECKS.due("60, 59", 3421, Checks.told("oven 60;oven 59;").gap());
        CHECKS.due("59, 60, 60", 3421, Checks.told("oven 59;oven 60;oven 60;").gap());
    }

    private static void upTo() {
        NeverHalf x = Checks.told("oven 4;oven 7;");
        CHECKS.due("upTo(0)", 0, x.upTo(0));
        CHECKS.due("upTo(1)", 4, x.upTo(1));
        CHECKS.due("upTo(9)", 11, x.upTo(9));
        CHECKS.due("upTo(17)", 18, x.upTo(17));
        CHECKS.due("upTo(1900)", 1900, x.upTo(1900));
        CHECKS.due("upTo(-1)", -3, x.upTo(-1));
        CHECKS.due("upTo(1900) of 60", 1920, Checks.told("oven 60;").upTo(1900));
        CHECKS.due("upTo(1) of 60", 60, Checks.told("oven 60;").upTo(1));
    }
}
