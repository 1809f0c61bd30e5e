/** The edges of promises 18 to 22: sums that full ovens bake. */
final class EdgeSumTest {
    private static final Checks CHECKS = new Checks();
    private static final int[] FAR = {-2, Integer.MIN_VALUE, Integer.MAX_VALUE};

    public static void main(String[] args) {
        sumsThatCanNotBe();
        leastSums();
        greatestSums();
        likeOvens();
        eachSum();
        gapOfOne();
        gaps();
        noGreatest();
        upToBounds();
        upToFar();
        CHECKS.finish();
    }

    private static Twins ovens(int... sizes) {
        StringBuilder text = new StringBuilder();
        for (int size : sizes) {
            text.append("oven ").append(size).append(";");
        }
        return new Twins(CHECKS, text.toString());
    }

    private static void sumsThatCanNotBe() {
        Twins[] all = {new Twins(CHECKS, NeverHalf::new), ovens(1), ovens(4, 7), Twins.rich(CHECKS)};
        String[] calls = {"canBake", "fires", "ways"};
        for (Twins twins : all) {
            for (String call : calls) {
                twins.refused(-3, call, -1);
                twins.refused(-3, call, 2001);
                for (int far : FAR) {
                    twins.refused(-3, call, far);
                }
            }
        }
    }

    /** 0 can be baked by no fire at all. */
    private static void leastSums() {
        Twins[] all = {new Twins(CHECKS, NeverHalf::new), ovens(1), ovens(60), ovens(60, 60, 60), Twins.rich(CHECKS)};
        for (Twins twins : all) {
            twins.asks(1, "canBake", 0);
            twins.asks(0, "fires", 0);
            twins.asks(1, "ways", 0);
        }
        Twins four = ovens(4);
        int[] can = {1, 0, 0, 0, 1, 0, 0, 0, 1};
        int[] fires = {0, -1, -1, -1, 1, -1, -1, -1, 2};
        for (int sum = 0; sum < can.length; sum++) {
            four.asks(can[sum], "canBake", sum);
            four.asks(fires[sum], "fires", sum);
            four.asks(can[sum], "ways", sum);
        }
        ovens(60).asks(0, "canBake", 59);
        ovens(60).asks(1, "canBake", 60);
        ovens(60).asks(0, "canBake", 61);
        ovens(60).asks(-1, "fires", 59);
        ovens(60).asks(1, "fires", 60);
    }

    private static void greatestSums() {
        Twins none = new Twins(CHECKS, NeverHalf::new);
        none.asks(0, "canBake", 2000);
        none.asks(-1, "fires", 2000);
        none.asks(0, "ways", 2000);
        ovens(1).asks(1, "canBake", 2000);
        ovens(1).asks(2000, "fires", 2000);
        ovens(1).asks(1, "ways", 2000);
        ovens(60, 40).asks(1, "canBake", 2000);
        ovens(60, 40).asks(34, "fires", 2000);
        ovens(60, 40).asks(17, "ways", 2000);
        ovens(60, 40).asks(0, "canBake", 1999);
        ovens(60, 40).asks(-1, "fires", 1999);
        ovens(60, 40).asks(0, "ways", 1999);
        ovens(60).asks(0, "canBake", 2000);
        ovens(60).asks(1, "canBake", 1980);
        ovens(60).asks(33, "fires", 1980);
    }

    private static void likeOvens() {
        ovens(1, 1).asks(2001, "ways", 2000);
        ovens(1, 1, 1).asks(2003001, "ways", 2000);
        ovens(1, 1, 1).asks(2000, "fires", 2000);
        ovens(7, 7).asks(2, "ways", 7);
        ovens(7, 7).asks(3, "ways", 14);
        ovens(7, 7, 14).asks(4, "ways", 14);
        ovens(7, 7).asks(0, "ways", 13);
    }

    /** Counted out: a of 9, b of 20, c of 6. */
    private static void eachSum() {
        NeverHalf x = Checks.told("oven 9;oven 20;oven 6;");
        for (int sum = 0; sum <= 100; sum++) {
            int ways = 0;
            int fewest = -1;
            for (int a = 0; 9 * a <= sum; a++) {
                for (int b = 0; 9 * a + 20 * b <= sum; b++) {
                    int left = sum - 9 * a - 20 * b;
                    if (left % 6 == 0) {
                        ways++;
                        int fires = a + b + left / 6;
                        fewest = fewest < 0 ? fires : Math.min(fewest, fires);
                    }
                }
            }
            CHECKS.due("canBake(" + sum + ")", ways > 0 ? 1 : 0, x.canBake(sum));
            CHECKS.due("ways(" + sum + ")", ways, x.ways(sum));
            CHECKS.due("fires(" + sum + ")", fewest, x.fires(sum));
        }
        CHECKS.due("the greatest that can't be", 43, x.gap());
    }

    private static void gapOfOne() {
        ovens(1).asks(-1, "gap");
        ovens(60, 1).asks(-1, "gap");
        ovens(60, 60, 1).asks(-1, "gap");
        ovens(1, 1, 1).asks(-1, "gap");
        ovens(1, 2, 3).asks(-1, "gap");
        ovens(2, 3).asks(1, "gap");
        ovens(3, 2, 2).asks(1, "gap");
    }

    private static void gaps() {
        ovens(6, 9, 20).asks(43, "gap");
        ovens(20, 9, 6).asks(43, "gap");
        ovens(6, 10, 15).asks(29, "gap");
        ovens(59, 60).asks(3421, "gap");
        ovens(60, 59).asks(3421, "gap");
        ovens(60, 60, 59).asks(3421, "gap");
        ovens(60, 59, 58).asks(1681, "gap");
        ovens(2, 59).asks(57, "gap");
        ovens(7, 7, 4).asks(17, "gap");
        ovens(4, 8, 7).asks(17, "gap");
        Twins.rich(CHECKS).asks(47, "gap");
    }

    private static void noGreatest() {
        new Twins(CHECKS, NeverHalf::new).asks(-4, "gap");
        new Twins(CHECKS, "family 1 wish 1;").asks(-4, "gap");
        ovens(2).asks(-4, "gap");
        ovens(60).asks(-4, "gap");
        ovens(2, 60).asks(-4, "gap");
        ovens(59, 59, 59).asks(-4, "gap");
        ovens(6, 10, 14).asks(-4, "gap");
        ovens(30, 42, 57).asks(-4, "gap");
    }

    private static void upToBounds() {
        Twins none = new Twins(CHECKS, NeverHalf::new);
        Twins rich = Twins.rich(CHECKS);
        none.asks(0, "upTo", 0);
        none.asks(-1, "upTo", 1);
        none.asks(-1, "upTo", 1900);
        rich.asks(0, "upTo", 0);
        rich.asks(9, "upTo", 1);
        rich.asks(1900, "upTo", 1900);
        Twins[] all = {none, rich, ovens(1), ovens(60)};
        for (Twins twins : all) {
            twins.refused(-3, "upTo", -1);
            twins.refused(-3, "upTo", 1901);
            for (int far : FAR) {
                twins.refused(-3, "upTo", far);
            }
        }
    }

    /** The sum that is found may be above what may be asked for. */
    private static void upToFar() {
        ovens(1).asks(1900, "upTo", 1900);
        ovens(60).asks(60, "upTo", 1);
        ovens(60).asks(60, "upTo", 60);
        ovens(60).asks(120, "upTo", 61);
        ovens(60).asks(1860, "upTo", 1860);
        ovens(60).asks(1920, "upTo", 1861);
        ovens(60).asks(1920, "upTo", 1900);
        ovens(59).asks(1947, "upTo", 1900);
        ovens(53).asks(1908, "upTo", 1900);
        ovens(59, 60).asks(118, "upTo", 61);
        ovens(60, 59).asks(1900, "upTo", 1900);
        ovens(60, 30, 45).asks(1905, "upTo", 1900);
        ovens(4, 7).asks(18, "upTo", 17);
        ovens(4, 7).asks(16, "upTo", 16);
    }
}
