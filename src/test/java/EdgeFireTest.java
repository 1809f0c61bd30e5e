import java.util.Arrays;

/** The edges of promises 11 to 17: fires, fires told in rows, days, draws. */
final class EdgeFireTest {
    private static final Checks CHECKS = new Checks();
    private static final String BAKERS = "fuel 10;family 1 flour 8;family 1 flour 9;family 1 flour 7;"
            + "oven 12;oven 8;oven 60;quarrel 0 2;";
    private static final String WISHERS = "family 1 flour 3 wish 4;family 1 flour 5 wish 5;family 1 wish 7;family 1;"
            + "oven 12;oven 11;oven 13;quarrel 1 2;";
    private static final String TOLD = "family 1 wish 5;family 1 wish 8;family 1 flour 2 wish 3;"
            + "oven 13;oven 5;oven 3;";

    public static void main(String[] args) {
        fireWhich();
        fireHowManyNumbers();
        fireByFlour();
        fireByQuarrels();
        fireBySize();
        fireTheLeastOf();
        fireByFarNumbers();
        fireFuelIsCut();
        fireBread();
        fireWishesWhich();
        fireWishesHindered();
        fireWishesMade();
        fireWishesOfTen();
        judgeWhich();
        judgeVerdicts();
        judgeNumbers();
        judgeLongRow();
        judgeWithoutFuel();
        performWhich();
        performAsFar();
        lastDay();
        dayByKeep();
        dayByBread();
        drawnHowMany();
        drawnUpToTheLastDay();
        drawnEats();
        drawnWrapsAround();
        lastsBounds();
        CHECKS.finish();
    }

    /** A village whose row 0 has these numbers. */
    private static Twins with(String text, long... numbers) {
        return new Twins(CHECKS, () -> {
            NeverHalf x = Checks.told(text);
            Checks.row(x, 0, numbers);
            return x;
        });
    }

    private static void fireWhich() {
        Twins rich = Twins.rich(CHECKS);
        rich.answers(36, "fire", 0, 0);
        rich.refused(-2, "fire", 3, 0);
        rich.refused(-2, "fire", -1, 0);
        rich.refused(-2, "fire", 0, 4);
        rich.refused(-2, "fire", 0, -1);
        rich.refused(-2, "fire", Integer.MAX_VALUE, 0);
        rich.refused(-2, "fire", 0, Integer.MIN_VALUE);
        rich.refused(-6, "fire", 0, 3);
        rich.refused(-2, "fire", 3, 3);
        rich.refused(-2, "fire", -1, 3);
        rich.refused(-7, "fire", 0, 1);
        rich.refused(-7, "fire", 0, 2);
        rich.refused(-13, "fire", 1, 0);
        rich.refused(-13, "fire", 2, 0);
        for (int row = 0; row < 4; row++) {
            NeverHalf x = Checks.told("family 1;oven 5;oven 6;oven 7;");
            for (int o = 0; o < 3; o++) {
                Checks.row(x, row, 5 + o);
                CHECKS.due("oven " + o + " row " + row, 20, x.fire(o, row));
            }
            CHECKS.due("bread", 18, x.family(0, 10));
        }
    }

    private static void fireHowManyNumbers() {
        with(BAKERS).refused(-7, "fire", 0, 0);
        with(BAKERS, 8, 4).refused(-7, "fire", 0, 0);
        with(BAKERS, -1, 4).refused(-7, "fire", 0, 0);
        with(BAKERS, 8, 4, 0).answers(9, "fire", 0, 0);
        with(BAKERS, 8, 4, 0, 0).refused(-7, "fire", 0, 0);
        with(BAKERS, new long[40]).refused(-7, "fire", 0, 0);
        with("oven 1;").refused(-13, "fire", 0, 0);
        with("oven 1;", 0).refused(-7, "fire", 0, 0);
        with("family 6;".repeat(10) + "oven 55;", 1, 2, 3, 4, 5, 6, 7, 8, 9, 10).answers(15, "fire", 0, 0);
        with("family 6;".repeat(10) + "oven 45;", 1, 2, 3, 4, 5, 6, 7, 8, 9).refused(-7, "fire", 0, 0);
    }

    private static void fireByFlour() {
        with(BAKERS, 8, 4, 0).answers(9, "fire", 0, 0);
        with(BAKERS, 9, 3, 0).refused(-11, "fire", 0, 0);
        with(BAKERS, 0, 9, 3).answers(9, "fire", 0, 0);
        with(BAKERS, 0, 10, 2).refused(-11, "fire", 0, 0);
        with(BAKERS, 0, 5, 7).answers(9, "fire", 0, 0);
        with(BAKERS, 0, 4, 8).refused(-11, "fire", 0, 0);
        with(BAKERS, -1, 6, 7).refused(-11, "fire", 0, 0);
        with(BAKERS, 6, 7, -1).refused(-11, "fire", 0, 0);
        with(BAKERS, 13, -1, 0).refused(-11, "fire", 0, 0);
        with("family 1 flour 0;family 1;oven 5;", 0, 5).answers(20, "fire", 0, 0);
        with("family 1 flour 0;family 1;oven 5;", 1, 4).refused(-11, "fire", 0, 0);
        NeverHalf x = Checks.told(BAKERS);
        Checks.row(x, 0, 8, 4, 0);
        x.fire(0, 0);
        CHECKS.due("all its flour", 0, x.family(0, 1));
        CHECKS.due("flour of 1", 5, x.family(1, 1));
        CHECKS.due("flour of 2", 7, x.family(2, 1));
        CHECKS.due("it has none now", -11, x.fire(0, 0));
    }

    private static void fireByQuarrels() {
        with(BAKERS, 1, 4, 7).refused(-12, "fire", 0, 0);
        with(BAKERS, 4, 7, 1).refused(-12, "fire", 0, 0);
        with(BAKERS, 0, 5, 7).answers(9, "fire", 0, 0);
        with(BAKERS, 5, 7, 0).answers(9, "fire", 0, 0);
        String ten = "family 6;".repeat(10) + "oven 2;quarrel 9 8;";
        with(ten, 0, 0, 0, 0, 0, 0, 0, 0, 1, 1).refused(-12, "fire", 0, 0);
        with(ten, 1, 0, 0, 0, 0, 0, 0, 0, 0, 1).answers(20, "fire", 0, 0);
        with(ten, 0, 0, 0, 0, 0, 0, 0, 0, 0, 2).answers(20, "fire", 0, 0);
    }

    private static void fireBySize() {
        with(BAKERS, 5, 6, 0).refused(-13, "fire", 0, 0);
        with(BAKERS, 5, 7, 0).answers(9, "fire", 0, 0);
        with(BAKERS, 5, 8, 0).refused(-13, "fire", 0, 0);
        with(BAKERS, 0, 0, 0).refused(-13, "fire", 0, 0);
        with("family 1;oven 1;", 0).refused(-13, "fire", 0, 0);
        with("family 1;oven 1;", 1).answers(20, "fire", 0, 0);
        with("family 1;oven 1;", 2).refused(-13, "fire", 0, 0);
        with("family 1 flour 61;oven 60;", 59).refused(-13, "fire", 0, 0);
        with("family 1 flour 61;oven 60;", 60).answers(20, "fire", 0, 0);
        with("family 1 flour 61;oven 60;", 61).refused(-13, "fire", 0, 0);
    }

    private static void fireTheLeastOf() {
        with(BAKERS, 9, 1, 1).refused(-11, "fire", 0, 0);
        with(BAKERS, 1, 1, 8).refused(-11, "fire", 0, 0);
        with(BAKERS, 1, -1, 1).refused(-11, "fire", 0, 0);
        with(BAKERS, 0, 0, -1).refused(-11, "fire", 0, 0);
        with(BAKERS, 1, 0, 1).refused(-12, "fire", 0, 0);
        with(BAKERS, 8, 9, 7).refused(-12, "fire", 0, 0);
        with(BAKERS, 8, 9, 0).refused(-13, "fire", 0, 0);
    }

    /** None is cut to fewer bits, no sum wraps around. */
    private static void fireByFarNumbers() {
        with(BAKERS, (1L << 32) + 8, 4, 0).refused(-11, "fire", 0, 0);
        with(BAKERS, (1L << 32), 5, 7).refused(-11, "fire", 0, 0);
        with(BAKERS, Long.MAX_VALUE, 5, 7).refused(-11, "fire", 0, 0);
        with(BAKERS, Long.MIN_VALUE, 5, 7).refused(-11, "fire", 0, 0);
        with(BAKERS, Long.MAX_VALUE, Long.MAX_VALUE, 14).refused(-11, "fire", 0, 0);
        with(BAKERS, Long.MIN_VALUE, Long.MIN_VALUE, 7).refused(-11, "fire", 0, 0);
        NeverHalf x = Checks.told("family 1 flour 999;oven 60;");
        x.numbers(0, 0, 1);
        x.write(0, 0, 255);
        CHECKS.due("255 of 8 bits is below 0", -11, x.fire(0, 0));
        x.write(0, 0, 256 + 60);
        CHECKS.due("316 of 8 bits is 60", 20, x.fire(0, 0));
    }

    private static void fireFuelIsCut() {
        with("fuel 59;family 1;family 1 flour 59;oven 60;", 1, 59).answers(58, "fire", 0, 0);
        with("fuel 60;family 1;family 1 flour 59;oven 60;", 1, 59).answers(60, "fire", 0, 0);
        with("fuel 61;family 1;family 1 flour 59;oven 60;", 1, 59).answers(60, "fire", 0, 0);
        with("fuel 999;family 1;family 1 flour 59;oven 60;", 1, 59).answers(998, "fire", 0, 0);
        with("fuel 999;family 1 flour 60;oven 60;", 60).answers(999, "fire", 0, 0);
        with("fuel 0;family 1 flour 60;oven 60;", 60).answers(0, "fire", 0, 0);
        with("fuel 1;family 1;family 1;oven 2;", 1, 1).answers(0, "fire", 0, 0);
        NeverHalf x = Checks.told("fuel 59;family 1;family 1 flour 59;family 1;oven 60;");
        Checks.row(x, 0, 1, 59, 0);
        x.fire(0, 0);
        CHECKS.due("59 by 60", 0, x.family(0, 4));
        CHECKS.due("59 times 59 by 60", 58, x.family(1, 4));
        CHECKS.due("none of it", 0, x.family(2, 4));
    }

    /** Bread that was baked has no bound of its own. */
    private static void fireBread() {
        NeverHalf x = Checks.told("family 1 flour 999 bread 99;oven 60;");
        Checks.row(x, 0, 60);
        for (int i = 1; i <= 16; i++) {
            CHECKS.due("fire " + i, 20, x.fire(0, 0));
            CHECKS.due("bread", 99 + 60 * i, x.family(0, 10));
            CHECKS.due("flour", 999 - 60 * i, x.family(0, 1));
            CHECKS.due("fuel", 20 * i, x.family(0, 4));
        }
        CHECKS.due("39 are left", -11, x.fire(0, 0));
        CHECKS.due("bread stays", 1059, x.family(0, 10));
    }

    private static void fireWishesWhich() {
        Twins rich = Twins.rich(CHECKS);
        rich.answers(36, "fireWishes", 0, 3);
        rich.answers(37, "fireWishes", 1, 4);
        rich.answers(36, "fireWishes", 2, 6);
        rich.refused(-2, "fireWishes", 3, 3);
        rich.refused(-2, "fireWishes", -1, 3);
        rich.refused(-2, "fireWishes", 3, 16);
        rich.refused(-2, "fireWishes", -1, -1);
        rich.refused(-3, "fireWishes", 0, 16);
        rich.refused(-3, "fireWishes", 0, 19);
        rich.refused(-3, "fireWishes", 0, -1);
        rich.refused(-3, "fireWishes", 0, Integer.MAX_VALUE);
        rich.refused(-3, "fireWishes", 0, Integer.MIN_VALUE);
        rich.refused(-3, "fireWishes", 0, Integer.MIN_VALUE + 3);
        rich.refused(-12, "fireWishes", 0, 15);
        rich.refused(-13, "fireWishes", 0, 0);
        Twins none = new Twins(CHECKS, "oven 1;");
        none.refused(-13, "fireWishes", 0, 0);
        none.refused(-3, "fireWishes", 0, 1);
    }

    private static void fireWishesHindered() {
        Twins some = new Twins(CHECKS, WISHERS);
        some.refused(-11, "fireWishes", 0, 1);
        some.refused(-11, "fireWishes", 0, 15);
        some.refused(-11, "fireWishes", 1, 5);
        some.refused(-12, "fireWishes", 0, 6);
        some.refused(-12, "fireWishes", 0, 14);
        some.refused(-13, "fireWishes", 0, 2);
        some.refused(-13, "fireWishes", 0, 12);
        some.refused(-13, "fireWishes", 0, 8);
        Twins friends = new Twins(CHECKS, () -> {
            NeverHalf x = Checks.told(WISHERS);
            x.fallOut(1, 2);
            return x;
        });
        friends.answers(19, "fireWishes", 0, 6);
        friends.refused(-13, "fireWishes", 1, 6);
        friends.refused(-13, "fireWishes", 2, 6);
        Twins lacking = new Twins(CHECKS, "family 1 flour 4 wish 5;oven 5;");
        lacking.refused(-11, "fireWishes", 0, 1);
        Twins enough = new Twins(CHECKS, "family 1 flour 5 wish 5;oven 5;");
        enough.answers(20, "fireWishes", 0, 1);
        Twins without = new Twins(CHECKS, "family 1 flour 5 wish 5;family 1 flour 0;oven 5;quarrel 0 1;");
        without.answers(20, "fireWishes", 0, 3);
    }

    private static void fireWishesMade() {
        NeverHalf x = Twins.richVillage();
        CHECKS.due("with one that has no wish", 36, x.fireWishes(0, 11));
        int[][] due = {{44, 0, 30}, {60, 0, 42}, {82, 9, 0}, {50, 0, 0}};
        for (int f = 0; f < 4; f++) {
            CHECKS.due("flour of " + f, due[f][0], x.family(f, 1));
            CHECKS.due("wish of " + f, due[f][1], x.family(f, 3));
            CHECKS.due("fuel of " + f, due[f][2], x.family(f, 4));
        }
        CHECKS.due("new bread of 0", 5, x.family(0, 10));
        CHECKS.due("new bread of 1", 7, x.family(1, 10));
        CHECKS.due("none is wished for", -13, x.fireWishes(0, 11));
    }

    private static void fireWishesOfTen() {
        Twins ten = new Twins(CHECKS, "family 1 wish 6;".repeat(10) + "oven 60;oven 6;oven 54;");
        ten.answers(20, "fireWishes", 0, 1023);
        ten.answers(20, "fireWishes", 1, 512);
        ten.answers(18, "fireWishes", 2, 1022);
        ten.refused(-3, "fireWishes", 0, 1024);
        ten.refused(-3, "fireWishes", 0, 2047);
    }

    private static void judgeWhich() {
        Twins rich = Twins.rich(CHECKS);
        rich.asks(2, "judge", 1, 0);
        rich.asks(3, "judge", 1, 1);
        rich.asks(21, "judge", 1, 2);
        for (int what = 0; what < 3; what++) {
            rich.refused(-6, "judge", 3, what);
            rich.refused(-2, "judge", 4, what);
            rich.refused(-2, "judge", -1, what);
        }
        for (int row = 0; row < 4; row++) {
            rich.refused(-2, "judge", row, -1);
            rich.refused(-2, "judge", row, 3);
        }
        rich.refused(-2, "judge", 4, 3);
        rich.refused(-2, "judge", Integer.MAX_VALUE, 0);
        rich.refused(-2, "judge", Integer.MIN_VALUE, 0);
        rich.refused(-2, "judge", 0, Integer.MAX_VALUE);
        rich.refused(-2, "judge", 0, Integer.MIN_VALUE);
    }

    private static void verdict(String text, int place, int why, int loaves, long... fires) {
        int made = place < 0 ? fires.length : place;
        with(text, fires).asks(place, "judge", 0, 0);
        with(text, fires).asks(why, "judge", 0, 1);
        with(text, fires).asks(loaves, "judge", 0, 2);
        with(text, fires).answers(made, "perform", 0);
        if (made == 0) {
            with(text, fires).asks(0, "perform", 0);
        }
    }

    private static void judgeVerdicts() {
        verdict(TOLD, -1, 0, 0);
        verdict(TOLD, -1, 0, 13, 3);
        verdict(TOLD, -1, 0, 5, 1024 + 1);
        verdict(TOLD, 0, 1, 0, 2048 + 4);
        verdict(TOLD, 0, 1, 0, 7);
        verdict(TOLD, 0, 3, 0, 0);
        verdict(TOLD, 0, 3, 0, 1);
        verdict(TOLD, 0, 3, 0, 1024 + 3);
        verdict(TOLD, 1, 3, 5, 1024 + 1, 1024 + 1);
        verdict(TOLD, 1, 3, 5, 1024 + 1, 3);
        verdict(TOLD, 1, 1, 13, 3, 2048 + 4, 3);
        verdict(TOLD, 1, 4, 13, 3, 3072, 1024 + 1);
        verdict(TOLD + "quarrel 0 1;", 0, 2, 0, 3);
        verdict(TOLD + "quarrel 0 1;", 0, 2, 0, 1024 + 3);
        verdict(TOLD + "quarrel 0 1;", 0, 1, 0, 7);
        verdict(TOLD + "quarrel 0 1;", 1, 3, 5, 1024 + 1, 3);
    }

    private static void judgeNumbers() {
        long[] noSuch = {3072, 3072 + 1, 8, 8 + 3, 1023, 1024 + 8 + 1, 2048 + 8 + 4, 3072 + 4, 2048 + 1023, -1, -1024,
            -1023, 1L << 40, (1L << 32) + 3, (1L << 42) + 3, Long.MAX_VALUE, Long.MIN_VALUE, Long.MIN_VALUE + 3};
        for (long told : noSuch) {
            verdict(TOLD, 0, 4, 0, told);
        }
        verdict(TOLD, 0, 1, 0, 2048 + 7);
        verdict("family 1 wish 5;oven 5;", 0, 4, 0, 1024 + 1);
        verdict("family 1 wish 5;oven 5;", 0, 4, 0, 2);
        verdict("family 1 wish 5;oven 5;", -1, 0, 5, 1);
        verdict("family 1 wish 5;", 0, 4, 0, 1);
        verdict("oven 5;", 0, 3, 0, 0);
        verdict("oven 5;", 0, 4, 0, 1);
        String ten = "family 1 wish 6;".repeat(10) + "oven 54;oven 60;oven 6;";
        verdict(ten, -1, 0, 60, 2047);
        verdict(ten, 0, 3, 0, 1023);
        verdict(ten, -1, 0, 6, 2048 + 512);
        verdict(ten, 0, 4, 0, 3072);
        NeverHalf x = Checks.told("family 1 wish 1;".repeat(8) + "oven 7;");
        x.numbers(0, 0, 1);
        x.write(0, 0, 127);
        CHECKS.due("127 of 8 bits", -1, x.judge(0, 0));
        x.write(0, 0, 128);
        CHECKS.due("128 of 8 bits is below 0", 4, x.judge(0, 1));
    }

    /** Ten fires can be, the eleventh can't; forty are a row as long as can be. */
    private static void judgeLongRow() {
        String ten = "family 1 wish 1;".repeat(10) + "oven 1;";
        long[] fires = new long[40];
        Arrays.fill(fires, 1);
        for (int f = 0; f < 10; f++) {
            fires[f] = 1 << f;
        }
        verdict(ten, 10, 3, 10, fires);
        verdict(ten, -1, 0, 10, Arrays.copyOf(fires, 10));
        fires[9] = 1024;
        verdict(ten, 9, 4, 9, fires);
    }

    /** A fire that costs nothing is a fire. */
    private static void judgeWithoutFuel() {
        verdict("fuel 0;" + TOLD, -1, 0, 13, 3);
        verdict("fuel 0;" + TOLD, 1, 3, 5, 1024 + 1, 1024 + 1);
        verdict("fuel 1;family 1 wish 1;family 1 wish 1;oven 2;oven 1;", -1, 0, 2, 3);
        verdict("fuel 0;family 1 wish 1;family 1 wish 1;oven 1;", -1, 0, 2, 1, 2);
    }

    private static void performWhich() {
        Twins rich = Twins.rich(CHECKS);
        rich.answers(2, "perform", 1);
        rich.asks(0, "perform", 0);
        rich.asks(0, "perform", 2);
        rich.refused(-6, "perform", 3);
        rich.refused(-2, "perform", 4);
        rich.refused(-2, "perform", -1);
        rich.refused(-2, "perform", Integer.MAX_VALUE);
        rich.refused(-2, "perform", Integer.MIN_VALUE);
        with(TOLD).asks(0, "perform", 0);
    }

    private static void performAsFar() {
        NeverHalf x = Twins.richVillage();
        CHECKS.due("the third can't be", 2, x.perform(1));
        int[][] due = {{44, 0, 30}, {60, 0, 42}, {73, 0, 37}, {50, 0, 0}};
        for (int f = 0; f < 4; f++) {
            CHECKS.due("flour of " + f, due[f][0], x.family(f, 1));
            CHECKS.due("wish of " + f, due[f][1], x.family(f, 3));
            CHECKS.due("fuel of " + f, due[f][2], x.family(f, 4));
        }
        CHECKS.due("the row stays", 0, x.judge(1, 0));
        CHECKS.due("day stays", 1, x.count(2));
    }

    private static NeverHalf atDay(int day, String text) {
        NeverHalf x = Checks.told(text);
        while (x.count(2) < day) {
            if (day - x.count(2) >= 30) {
                x.drawn(9, 30);
            } else {
                x.day();
            }
        }
        return x;
    }

    private static void lastDay() {
        Twins last = new Twins(CHECKS, () -> atDay(999, "family 3;"));
        last.refused(-5, "day");
        NeverHalf x = atDay(998, "family 3;");
        CHECKS.due("the last one", x.family(0, 0), x.day());
        CHECKS.due("day", 999, x.count(2));
        CHECKS.due("no more", -5, x.day());
        CHECKS.due("hunger stays", 0, x.count(8) - x.family(0, 5));
        CHECKS.due("day stays", 999, x.count(2));
        CHECKS.due("a village anew", 1, Checks.tell(x, "family 3;"));
        CHECKS.due("from day 0 on", 3, x.day());
        CHECKS.due("day", 1, x.count(2));
    }

    /** Bread goes stale on the day by which it would be of age keep, and not ahead of it. */
    private static void dayByKeep() {
        for (int keep = 1; keep <= 5; keep++) {
            NeverHalf x = Checks.told("keep " + keep + ";family 0 bread 7;");
            for (int day = 1; day < keep; day++) {
                x.day();
                CHECKS.due("not yet stale", 0, x.family(0, 6));
                CHECKS.due("of age " + day, 7, x.family(0, 10 + day));
                CHECKS.due("all", 7, x.family(0, 2));
            }
            x.day();
            CHECKS.due("stale, keep " + keep, 7, x.family(0, 6));
            CHECKS.due("no more", 0, x.family(0, 2));
            CHECKS.due("of all", 7, x.count(9));
            x.day();
            CHECKS.due("once", 7, x.family(0, 6));
        }
    }

    private static void dayByBread() {
        NeverHalf x = Checks.told("keep 2;family 5 bread 2 3;family 5 bread 2 2;family 5 bread 3 3;family 5 bread 0 6;"
                + "family 0 bread 1 1;family 30;");
        CHECKS.due("hunger", 31, x.day());
        int[][] due = {{0, 0, 0}, {0, 1, 0}, {1, 0, 0}, {0, 0, 1}, {1, 0, 1}, {0, 30, 0}};
        for (int f = 0; f < due.length; f++) {
            CHECKS.due("bread of " + f, due[f][0], x.family(f, 11));
            CHECKS.due("none is new, " + f, 0, x.family(f, 10));
            CHECKS.due("hunger of " + f, due[f][1], x.family(f, 5));
            CHECKS.due("stale of " + f, due[f][2], x.family(f, 6));
        }
        CHECKS.due("no families", 0, new NeverHalf().day());
    }

    private static void drawnHowMany() {
        Twins some = new Twins(CHECKS, "family 0;family 0;");
        some.refused(-3, "drawn", 1, 0);
        some.refused(-3, "drawn", 1, -1);
        some.refused(-3, "drawn", 1, 31);
        some.refused(-3, "drawn", 1, Integer.MAX_VALUE);
        some.refused(-3, "drawn", 1, Integer.MIN_VALUE);
        some.answers(0, "drawn", 9, 1);
        NeverHalf x = Checks.told("family 0;");
        CHECKS.holds("thirty", x.drawn(9, 30) >= 0);
        CHECKS.due("days", 30, x.count(2));
        Twins none = new Twins(CHECKS, "oven 5;");
        none.refused(-5, "drawn", 1, 1);
        none.refused(-5, "drawn", 1, 30);
        none.refused(-3, "drawn", 1, 0);
        none.refused(-3, "drawn", 1, 31);
    }

    private static void drawnUpToTheLastDay() {
        int[] left = {1, 2, 29, 30};
        for (int days : left) {
            NeverHalf x = atDay(999 - days, "family 3;");
            CHECKS.holds("the last " + days, x.drawn(9, days) >= 0);
            CHECKS.due("day", 999, x.count(2));
            Twins ahead = new Twins(CHECKS, () -> atDay(999 - days, "family 3;"));
            if (days < 30) {
                ahead.refused(-5, "drawn", 9, days + 1);
                ahead.refused(-5, "drawn", 9, 30);
            }
            ahead.refused(-3, "drawn", 9, 31);
        }
        Twins last = new Twins(CHECKS, () -> atDay(999, "family 3;"));
        last.refused(-5, "drawn", 9, 1);
        last.refused(-3, "drawn", 9, 0);
    }

    /** With one family the second draw of seed 9 is nothing, of 8 one more, of 2 one less. */
    private static void drawnEats() {
        int[] seeds = {9, 8, 2};
        int[][] due = {{0, 1, 0}, {1, 2, 0}, {29, 30, 28}, {30, 30, 29}};
        for (int[] row : due) {
            for (int kind = 0; kind < 3; kind++) {
                NeverHalf x = Checks.told("family " + row[0] + ";");
                int eats = kind == 0 ? row[0] : row[kind];
                CHECKS.due("hunger of the changed one, kind " + kind, eats, x.drawn(seeds[kind], 1));
                CHECKS.due("eats " + row[0] + " kind " + kind, eats, x.family(0, 0));
                CHECKS.due("one day", 1, x.count(2));
                CHECKS.due("its hunger", eats, x.family(0, 5));
            }
        }
    }

    /** x as a number of 32 bits without a sign, of which a draw is the upper half. */
    private static void drawnWrapsAround() {
        int[] seeds = {0, 1, -1, Integer.MAX_VALUE, Integer.MIN_VALUE, 1 << 16, -12345, 987654321};
        for (int seed : seeds) {
            for (int n = 1; n <= 10; n++) {
                int[] eats = new int[n];
                NeverHalf x = Checks.told("family 0;".repeat(n));
                long at = seed & 0xffffffffL;
                int hunger = 0;
                for (int day = 0; day < 30; day++) {
                    at = 1103515245L * at + 12345 & 0xffffffffL;
                    int f = (int) (at / 65536 % n);
                    at = 1103515245L * at + 12345 & 0xffffffffL;
                    int kind = (int) (at / 65536 % 3);
                    eats[f] = Math.max(0, eats[f] + (kind == 1 ? 1 : kind == 2 ? -1 : 0));
                    hunger += Arrays.stream(eats).sum();
                }
                CHECKS.due("seed " + seed + " families " + n, hunger, x.drawn(seed, 30));
                for (int f = 0; f < n; f++) {
                    CHECKS.due("eats of " + f, eats[f], x.family(f, 0));
                }
            }
        }
    }

    private static void lastsBounds() {
        Twins rich = Twins.rich(CHECKS);
        rich.asks(2, "lasts", 0);
        rich.asks(3, "lasts", 1);
        rich.asks(0, "lasts", 2);
        rich.asks(0, "lasts", 3);
        rich.refused(-2, "lasts", 4);
        rich.refused(-2, "lasts", -1);
        rich.refused(-2, "lasts", Integer.MAX_VALUE);
        rich.refused(-2, "lasts", Integer.MIN_VALUE);
        for (int keep = 1; keep <= 5; keep++) {
            Twins some = new Twins(CHECKS, "keep " + keep + ";family 3 bread" + " 3".repeat(keep) + ";family 1 bread 99;"
                    + "family 3 bread 2" + " 3".repeat(keep - 1) + ";family 0;family 0 bread 9;family 1;");
            some.asks(keep, "lasts", 0);
            some.asks(keep, "lasts", 1);
            some.asks(keep - 1, "lasts", 2);
            some.asks(-1, "lasts", 3);
            some.asks(-1, "lasts", 4);
            some.asks(0, "lasts", 5);
        }
    }
}
