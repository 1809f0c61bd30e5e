/** Promises 1 to 10: the village, its text, families, ovens, quarrels, wishes, flour. */
final class VillageTest {
    private static final Checks CHECKS = new Checks();

    public static void main(String[] args) {
        newObject();
        tape();
        textsThatAreRight();
        faults();
        faultsAmongTooMany();
        faultKeepsAll();
        families();
        ovensAndQuarrels();
        wishes();
        flour();
        CHECKS.finish();
    }

    private static void newObject() {
        NeverHalf x = new NeverHalf();
        int[] counts = {0, 0, 0, 3, 20, 0, 0, 0, 0, 0, 0, 0, 0, 0};
        for (int what = 0; what < counts.length; what++) {
            CHECKS.due("new count(" + what + ")", counts[what], x.count(what));
        }
        CHECKS.due("new fault(0)", 0, x.fault(0));
        CHECKS.due("new fault(1)", -1, x.fault(1));
        CHECKS.due("new oven(0)", -2, x.oven(0));
        CHECKS.due("new family(0, 0)", -2, x.family(0, 0));
    }

    private static void tape() {
        NeverHalf x = new NeverHalf();
        for (int i = 1; i <= 45; i++) {
            CHECKS.due("feed " + i, 20 * i, x.feed(0x20202020, 0x20202020, 0x20202020, 0x20202020, 0x20202020));
        }
        CHECKS.due("feed above 900", -5, x.feed(0, 0, 0, 0, 0));
        CHECKS.due("count(11)", 900, x.count(11));
        CHECKS.due("village(901)", -3, x.village(901));
        CHECKS.due("village(-1)", -3, x.village(-1));
        CHECKS.due("the tape stays", 900, x.count(11));
        CHECKS.due("blanks alone", 0, x.village(900));
        CHECKS.due("the tape is empty", 0, x.count(11));
        CHECKS.due("village(1) of an empty tape", -3, x.village(1));
        CHECKS.due("highest bytes first", 20, x.feed(0x6675656c, 0x20333b80, 0, 0, 0));
        CHECKS.due("fuel 3;", 1, x.village(7));
        CHECKS.due("fuel", 3, x.count(4));
    }

    private static void textsThatAreRight() {
        NeverHalf x = new NeverHalf();
        CHECKS.due("no text", 0, Checks.tell(x, ""));
        CHECKS.due("lines", 4, Checks.tell(x, "keep 2;keep 4;\nfuel 7; fuel 999 ;"));
        CHECKS.due("later keep strikes", 4, x.count(3));
        CHECKS.due("later fuel strikes", 999, x.count(4));
        CHECKS.due("count(12)", 4, x.count(12));
        CHECKS.due("no blanks needed", 2, Checks.tell(x, "family7flour8bread9 1wish6;oven60;"));
        CHECKS.due("eats", 7, x.family(0, 0));
        CHECKS.due("flour", 8, x.family(0, 1));
        CHECKS.due("bread", 9, x.family(0, 10));
        CHECKS.due("wish", 6, x.family(0, 3));
        CHECKS.due("keep is 3 again", 3, x.count(3));
        CHECKS.due("fuel is 20 again", 20, x.count(4));
        CHECKS.due("noughts ahead", 1, Checks.tell(x, "family 007 wish 099;"));
        CHECKS.due("eats 007", 7, x.family(0, 0));
        CHECKS.due("flour unless told", 50, x.family(0, 1));
        CHECKS.due("bread unless told", 0, x.family(0, 2));
        CHECKS.due("a village has no ovens of the one ahead", 0, x.count(1));
        CHECKS.due("the widest", 4, Checks.tell(x, "keep 5;family 30 flour 999 bread 99 99 99 99 99 wish 99;"
                + "family 0 flour 0 bread 0 wish 0;quarrel 1 0;"));
        CHECKS.due("bread of age 4", 99, x.family(0, 14));
        CHECKS.due("quarrel(0, 1)", 1, x.quarrel(0, 1));
        CHECKS.due("quarrels twice", 4, Checks.tell(x, "family 1;family 1;quarrel 0 1;quarrel 1 0;"));
        CHECKS.due("still a quarrel", 1, x.quarrel(0, 1));
    }

    private static void fault(String text, int kind, int place) {
        NeverHalf x = new NeverHalf();
        CHECKS.due(text, -30 - kind, Checks.tell(x, text));
        CHECKS.due(text + " fault(0)", kind, x.fault(0));
        CHECKS.due(text + " fault(1)", place, x.fault(1));
        CHECKS.due(text + " the tape", 0, x.count(11));
    }

    private static void faults() {
        fault(";", 2, 0);
        fault("7;", 2, 0);
        fault("bake 1;", 2, 0);
        fault("flour 1;", 2, 0);
        fault("az;", 2, 0);
        fault("family 1;z 1;", 2, 9);
        fault("family 1;`", 1, 9);
        fault("family 1;{", 1, 9);
        fault("family 1/;", 1, 8);
        fault("family 1:", 1, 8);
        fault("familys 1;", 2, 0);
        fault("Family 1;", 1, 0);
        fault("family 1;\toven 1;", 1, 9);
        fault("family 1;" + (char) 233, 1, 9);
        fault("family -1;", 1, 7);
        fault("family;", 2, 6);
        fault("family 31;", 3, 7);
        fault("family 1000;", 1, 7);
        fault("0000 ", 1, 0);
        fault("family 1 wish 100;", 3, 14);
        fault("family 1 wish 5 flour 6;", 2, 16);
        fault("family 1 bread 5 flour 6;", 2, 17);
        fault("family 1 wish 1 wish 2;", 2, 16);
        fault("family 1 2;", 2, 9);
        fault("family 1 bread wish 1;", 2, 15);
        fault("family 1 bread 100;", 3, 15);
        fault("family 1 bread 1 2 3 4;", 4, 21);
        fault("family 1 bread 1 2 3 99;", 4, 21);
        fault("family 1 bread 1 2 3 100;", 3, 21);
        fault("family 1 bread 1 2 3 1000;", 1, 21);
        fault("keep 1;family 1 bread 1 2;", 4, 24);
        fault("family 1", 2, 8);
        fault("family 1  ", 2, 10);
        fault("family 1 family 2;", 2, 9);
        fault("oven 0;", 3, 5);
        fault("oven 61;", 3, 5);
        fault("oven 5 5;", 2, 7);
        fault("keep 0;", 3, 5);
        fault("keep 6;", 3, 5);
        fault("family 1;keep 6;", 2, 9);
        fault("family 1;quarrel 0 0;", 3, 19);
        fault("family 1;quarrel 1 0;", 3, 17);
        fault("family 1;family 1;quarrel 0 2;", 3, 28);
        fault("family 1;family 1;quarrel 0;", 2, 27);
        fault("quarrel 0 1;family 1;family 1;", 3, 8);
        fault("fuel 1?", 1, 6);
        fault("fuel 1?;", 1, 6);
        fault("fuel", 2, 4);
    }

    private static void faultsAmongTooMany() {
        String ten = "family 1;".repeat(10);
        fault(ten + "family 99;", 4, 90);
        fault(ten + "family", 4, 90);
        fault(ten + "families 1;", 2, 90);
        fault("oven 1;oven 1;oven 1;oven 99;", 4, 21);
        NeverHalf x = new NeverHalf();
        CHECKS.due("ten families, three ovens", 13, Checks.tell(x, ten + "oven 1;oven 1;oven 1;"));
    }

    private static void faultKeepsAll() {
        NeverHalf x = Checks.told("keep 2;fuel 9;family 4 bread 1 wish 2;oven 7;");
        x.day();
        CHECKS.due("a fault", -32, Checks.tell(x, "family 9;family 8;oven"));
        int[] counts = {1, 1, 1, 2, 9, 50, 0, 2, 3, 0, 4, 0, 4, 0};
        for (int what = 0; what < counts.length; what++) {
            CHECKS.due("after a fault count(" + what + ")", counts[what], x.count(what));
        }
        CHECKS.due("refused village", -3, x.village(1));
        CHECKS.due("fault(0) of the one that was read", 2, x.fault(0));
        CHECKS.due("fault(1) of the one that was read", 22, x.fault(1));
        CHECKS.due("fault(2)", -1, x.fault(2));
        CHECKS.due("fault(-1)", -1, x.fault(-1));
        CHECKS.due("a right text", 1, Checks.tell(x, "family 9;"));
        CHECKS.due("no fault", 0, x.fault(0));
        CHECKS.due("no place", -1, x.fault(1));
        CHECKS.due("day is 0", 0, x.count(2));
        CHECKS.due("hunger is gone", 0, x.count(8));
        NeverHalf y = Checks.told("keep 1;family 3 bread 9 wish 5;family 2;oven 5;quarrel 0 1;");
        y.fireWishes(0, 1);
        y.lend(0, 1, 5);
        y.day();
        Checks.tell(y, "family 3;family 2;");
        int[] due = {3, 50, 0, 0, 0, 0, 0, 0};
        for (int what = 0; what < due.length; what++) {
            CHECKS.due("nothing of the one ahead: family(0, " + what + ")", due[what], y.family(0, what));
        }
        CHECKS.due("no quarrel of the one ahead", 0, y.quarrel(0, 1));
        CHECKS.due("no debt of the one ahead", 0, y.owed(1, 0));
    }

    private static void families() {
        NeverHalf x = Checks.told("keep 2;family 4 flour 60 bread 3 2 wish 5;family 1;oven 5;");
        long[] due = {4, 60, 5, 5, 0, 0, 0, 0, -2, -2, 3, 2, -2};
        for (int what = 0; what < due.length; what++) {
            CHECKS.due("family(0, " + what + ")", due[what], x.family(0, what));
        }
        CHECKS.due("family(0, -1)", -2, x.family(0, -1));
        CHECKS.due("family(2, 0)", -2, x.family(2, 0));
        CHECKS.due("family(-1, 0)", -2, x.family(-1, 0));
        CHECKS.due("family(0, greatest)", -2, x.family(0, Integer.MAX_VALUE));
        x.fireWishes(0, 1);
        CHECKS.due("fuel owed", 20, x.family(0, 4));
        x.day();
        CHECKS.due("hunger of one without bread", 1, x.family(1, 5));
        x.day();
        CHECKS.due("stale", 2, x.family(0, 6));
        x.lend(0, 1, 7);
        CHECKS.due("balance of the giver", 7, x.family(0, 7));
        CHECKS.due("balance of the other", -7, x.family(1, 7));
    }

    private static void ovensAndQuarrels() {
        NeverHalf x = Checks.told("family 1;family 1;family 1;oven 60;oven 1;quarrel 0 2;");
        CHECKS.due("oven(0)", 60, x.oven(0));
        CHECKS.due("oven(1)", 1, x.oven(1));
        CHECKS.due("oven(2)", -2, x.oven(2));
        CHECKS.due("oven(-1)", -2, x.oven(-1));
        CHECKS.due("quarrel(2, 0)", 1, x.quarrel(2, 0));
        CHECKS.due("quarrel(0, 1)", 0, x.quarrel(0, 1));
        CHECKS.due("quarrel(1, 1)", 0, x.quarrel(1, 1));
        CHECKS.due("quarrel(3, 0)", -2, x.quarrel(3, 0));
        CHECKS.due("quarrel(0, -1)", -2, x.quarrel(0, -1));
        CHECKS.due("fallOut(2, 0)", 0, x.fallOut(2, 0));
        CHECKS.due("no more", 0, x.quarrel(0, 2));
        CHECKS.due("fallOut(0, 1)", 1, x.fallOut(0, 1));
        CHECKS.due("both ways", 1, x.quarrel(1, 0));
        CHECKS.due("fallOut(1, 1)", -2, x.fallOut(1, 1));
        CHECKS.due("fallOut(1, 3)", -2, x.fallOut(1, 3));
        CHECKS.due("fallOut(-1, 1)", -2, x.fallOut(-1, 1));
    }

    private static void wishes() {
        NeverHalf x = Checks.told("family 1 wish 3;");
        CHECKS.due("wish(0, 99)", 3, x.wish(0, 99));
        CHECKS.due("wish(0, 100)", -3, x.wish(0, 100));
        CHECKS.due("wish(0, -1)", -3, x.wish(0, -1));
        CHECKS.due("wish(0, 0)", 99, x.wish(0, 0));
        CHECKS.due("wish(1, 100)", -2, x.wish(1, 100));
        CHECKS.due("wish now", 0, x.family(0, 3));
    }

    private static void flour() {
        NeverHalf x = Checks.told("family 1 flour 3;");
        CHECKS.due("mill(0, 0)", 3, x.mill(0, 0));
        CHECKS.due("mill(0, 7)", 10, x.mill(0, 7));
        CHECKS.due("mill(0, 1000)", -3, x.mill(0, 1000));
        CHECKS.due("mill(0, -1)", -3, x.mill(0, -1));
        CHECKS.due("mill(1, -1)", -2, x.mill(1, -1));
        CHECKS.due("mill(0, 999)", 999, x.mill(0, 999));
        CHECKS.due("flour", 999, x.family(0, 1));
    }
}
