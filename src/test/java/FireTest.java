/** Promises 11 to 17: fires, fires told in rows, days, draws. */
final class FireTest {
    private static final Checks CHECKS = new Checks();

    public static void main(String[] args) {
        fires();
        fireWishes();
        judged();
        performed();
        days();
        lastDay();
        drawn();
        lasts();
        CHECKS.finish();
    }

    private static void fires() {
        NeverHalf x = Checks.told("fuel 10;family 1 flour 8;family 1 flour 9;family 1;oven 12;quarrel 0 2;");
        CHECKS.due("a missing row", -6, x.fire(0, 0));
        CHECKS.due("no such oven", -2, x.fire(1, 0));
        CHECKS.due("no such row", -2, x.fire(0, 4));
        CHECKS.due("no such row", -2, x.fire(0, -1));
        Checks.row(x, 0, 5, 7);
        CHECKS.due("two numbers", -7, x.fire(0, 0));
        Checks.row(x, 0, 5, 7, 0, 0);
        CHECKS.due("four numbers", -7, x.fire(0, 0));
        Checks.row(x, 0, 9, 3, 1);
        CHECKS.due("more than its flour, ahead of a quarrel", -11, x.fire(0, 0));
        Checks.row(x, 0, 8, 9, -5);
        CHECKS.due("below 0", -11, x.fire(0, 0));
        Checks.row(x, 0, 1L << 32, 9, 3);
        CHECKS.due("far above", -11, x.fire(0, 0));
        Checks.row(x, 0, 1, 1, 1);
        CHECKS.due("a quarrel, ahead of the sum", -12, x.fire(0, 0));
        Checks.row(x, 0, 5, 6, 0);
        CHECKS.due("not full", -13, x.fire(0, 0));
        Checks.row(x, 0, 5, 8, 0);
        CHECKS.due("more than full", -13, x.fire(0, 0));
        CHECKS.due("nothing has gone", 67, x.count(5));
        Checks.row(x, 0, 5, 7, 0);
        CHECKS.due("fuel: 50/12, 70/12, each cut", 9, x.fire(0, 0));
        CHECKS.due("flour", 3, x.family(0, 1));
        CHECKS.due("bread", 7, x.family(1, 10));
        CHECKS.due("fuel of one", 5, x.family(1, 4));
        CHECKS.due("wishes stay as they are", 0, x.count(7));
        NeverHalf none = Checks.told("oven 1;");
        none.numbers(0, 0, 0);
        CHECKS.due("no families", -13, none.fire(0, 0));
    }

    private static void fireWishes() {
        NeverHalf x = Checks.told("family 1 flour 3 wish 4;family 1 wish 5;family 1 wish 7;family 1;"
                + "oven 12;quarrel 1 2;");
        CHECKS.due("no such oven", -2, x.fireWishes(1, 99));
        CHECKS.due("no such oven", -2, x.fireWishes(-1, 6));
        CHECKS.due("others than families", -3, x.fireWishes(0, 16));
        CHECKS.due("a set below 0", -3, x.fireWishes(0, -1));
        CHECKS.due("flour", -11, x.fireWishes(0, 7));
        CHECKS.due("quarrel", -12, x.fireWishes(0, 6));
        x.fallOut(1, 2);
        CHECKS.due("not full", -13, x.fireWishes(0, 4));
        CHECKS.due("none", -13, x.fireWishes(0, 0));
        CHECKS.due("with one that has no wish", 19, x.fireWishes(0, 14));
        CHECKS.due("wishes are 0 then", 4, x.count(7));
        CHECKS.due("bread", 7, x.family(2, 10));
        CHECKS.due("flour", 43, x.family(2, 1));
        NeverHalf y = Checks.told("family 1 wish 5;family 1;oven 5;quarrel 0 1;");
        CHECKS.due("a quarrel with one that has none in it", 20, y.fireWishes(0, 3));
    }

    private static void judged() {
        NeverHalf x = Checks.told("family 1 wish 5;family 1 wish 8;family 1 flour 2 wish 3;oven 13;oven 5;oven 3;");
        CHECKS.due("no such row", -2, x.judge(4, 0));
        CHECKS.due("no such what", -2, x.judge(0, 3));
        CHECKS.due("no such what", -2, x.judge(0, -1));
        CHECKS.due("missing", -6, x.judge(0, 0));
        x.numbers(0, 0, 0);
        CHECKS.due("no fires", -1, x.judge(0, 0));
        CHECKS.due("no fires", 0, x.judge(0, 1));
        CHECKS.due("no fires", 0, x.judge(0, 2));
        verdict(x, 1, 1, 5, 1024 + 1, 2048 + 4, 3);
        verdict(x, 1, 3, 5, 1024 + 1, 1024 + 1);
        verdict(x, 0, 4, 0, 3072 + 1);
        verdict(x, 0, 4, 0, 8 + 1);
        verdict(x, 0, 4, 0, -1);
        verdict(x, 0, 4, 0, 1L << 40);
        verdict(x, -1, 0, 13, 3);
        x.fallOut(0, 1);
        verdict(x, 0, 2, 0, 3);
        CHECKS.due("nothing was made", 16, x.count(7));
        CHECKS.due("nothing was baked", 0, x.count(6));
    }

    private static void verdict(NeverHalf x, int place, int why, int loaves, long... fires) {
        Checks.row(x, 1, fires);
        CHECKS.due("place of " + fires[0], place, x.judge(1, 0));
        CHECKS.due("why of " + fires[0], why, x.judge(1, 1));
        CHECKS.due("loaves of " + fires[0], loaves, x.judge(1, 2));
    }

    private static void performed() {
        NeverHalf x = Checks.told("family 1 wish 5;family 1 wish 8;oven 8;oven 5;");
        CHECKS.due("no such row", -2, x.perform(-1));
        CHECKS.due("missing", -6, x.perform(2));
        Checks.row(x, 2, 2, 2, 1025);
        CHECKS.due("up to the first that can't be", 1, x.perform(2));
        CHECKS.due("the last was not made", 5, x.family(0, 3));
        CHECKS.due("the first was", 8, x.family(1, 10));
        CHECKS.due("its fuel", 20, x.family(1, 4));
        Checks.row(x, 2, 1025);
        CHECKS.due("all", 1, x.perform(2));
        CHECKS.due("wishes", 0, x.count(7));
    }

    private static void days() {
        NeverHalf x = Checks.told("keep 2;family 4 bread 5 3;family 6 bread 1 2;family 1 bread 0 4;");
        CHECKS.due("hunger", 3, x.day());
        CHECKS.due("oldest first", 4, x.family(0, 11));
        CHECKS.due("none is new", 0, x.family(0, 10));
        CHECKS.due("hunger of one", 3, x.family(1, 5));
        CHECKS.due("stale of one", 3, x.family(2, 6));
        CHECKS.due("day", 1, x.count(2));
        CHECKS.due("hunger", 7, x.day());
        CHECKS.due("hunger in all", 10, x.count(8));
        CHECKS.due("stale in all", 3, x.count(9));
        NeverHalf y = Checks.told("keep 1;family 1 bread 5;");
        y.day();
        CHECKS.due("keep 1: what isn't eaten is stale", 4, y.family(0, 6));
    }

    private static void lastDay() {
        NeverHalf x = Checks.told("family 1;");
        for (int i = 0; i < 33; i++) {
            CHECKS.holds("30 days", x.drawn(7, 30) >= 0);
        }
        CHECKS.due("day", 990, x.count(2));
        CHECKS.due("10 days more", -5, x.drawn(7, 10));
        x.image(0);
        CHECKS.holds("9 days more", x.drawn(7, 9) >= 0);
        CHECKS.due("no more than 999", -5, x.day());
        x.restore(0);
        CHECKS.holds("8 days more", x.drawn(7, 8) >= 0);
        CHECKS.holds("the last one", x.day() >= 0);
        CHECKS.due("no more", -5, x.day());
        CHECKS.due("no more", -5, x.drawn(7, 1));
        CHECKS.due("day", 999, x.count(2));
    }

    private static void drawn() {
        NeverHalf x = Checks.told("family 5;family 0;family 30;");
        CHECKS.due("0 days", -3, x.drawn(1, 0));
        CHECKS.due("31 days", -3, x.drawn(1, 31));
        CHECKS.due("no families, how many first", -3, new NeverHalf().drawn(1, 31));
        CHECKS.due("no families", -5, new NeverHalf().drawn(1, 30));
        int[] eats = {5, 0, 30};
        int seed = 99;
        int hunger = 0;
        for (int i = 0; i < 30; i++) {
            seed = seed * 1103515245 + 12345;
            int f = (seed >>> 16) % 3;
            seed = seed * 1103515245 + 12345;
            int kind = (seed >>> 16) % 3;
            eats[f] = Math.max(0, Math.min(30, eats[f] + (kind == 1 ? 1 : kind == 2 ? -1 : 0)));
            hunger += eats[0] + eats[1] + eats[2];
        }
        CHECKS.due("hunger in 30 drawn days", hunger, x.drawn(99, 30));
        for (int f = 0; f < 3; f++) {
            CHECKS.due("eats of " + f, eats[f], x.family(f, 0));
        }
        CHECKS.due("day", 30, x.count(2));
    }

    private static void lasts() {
        NeverHalf x = Checks.told("keep 5;family 2 bread 2 2 2 2 2;family 0;family 3;family 1 bread 9;"
                + "family 4 bread 3 2 0 2 2;");
        CHECKS.due("all the days it keeps", 5, x.lasts(0));
        CHECKS.due("eats nothing", -1, x.lasts(1));
        CHECKS.due("no bread", 0, x.lasts(2));
        CHECKS.due("till it's stale", 5, x.lasts(3));
        CHECKS.due("oldest first", 2, x.lasts(4));
        CHECKS.due("no such family", -2, x.lasts(5));
        CHECKS.due("no such family", -2, x.lasts(-1));
        CHECKS.due("nothing was eaten", 28, x.count(6));
    }
}
