/** The bounds of a text, its faults and their places ('Terms', promises 2 to 4). */
final class EdgeTextTest {
    private static final Checks CHECKS = new Checks();
    private static final String TEN = "family 1;".repeat(10);
    /** 900 bytes, whose last number is told by the last ones. */
    private static final String LONGEST = "fuel 1;".repeat(127) + "fuel   999;";

    public static void main(String[] args) {
        withoutText();
        longestText();
        numbersOfFamilies();
        numbersOfOthers();
        numbersOfQuarrels();
        unlessTold();
        digits();
        howManyFamilies();
        howManyOvens();
        breadByKeep();
        keepAheadOfFamilies();
        laterOnesStrike();
        everyByteBehind();
        everyByteBetween();
        everyByteInAWord();
        words();
        wordsWithAnotherLetter();
        wordsInPlaceOfNumbers();
        wordsThatCanNotStandThere();
        cutShort();
        endIsTheLength();
        nothingOfTheTextAhead();
        firstAlongTheText();
        leastKindOfOneToken();
        feedBounds();
        feedBytes();
        villageBounds();
        villageAnew();
        familiesAnew();
        withoutOvensAnew();
        faultsOfTheLatest();
        faultStays();
        CHECKS.finish();
    }

    /** Answers the object, so that what was read can be looked at. */
    private static NeverHalf right(String text, int lines) {
        NeverHalf x = new NeverHalf();
        CHECKS.due(text, lines, Checks.tell(x, text));
        CHECKS.due(text + " fault(0)", 0, x.fault(0));
        CHECKS.due(text + " fault(1)", -1, x.fault(1));
        CHECKS.due(text + " count(12)", lines, x.count(12));
        return x;
    }

    private static void wrong(String text, int kind, int place) {
        NeverHalf x = new NeverHalf();
        CHECKS.due(text, -30 - kind, Checks.tell(x, text));
        CHECKS.due(text + " fault(0)", kind, x.fault(0));
        CHECKS.due(text + " fault(1)", place, x.fault(1));
        CHECKS.due(text + " lines", 0, x.count(12));
        CHECKS.due(text + " families", 0, x.count(0));
        CHECKS.due(text + " ovens", 0, x.count(1));
    }

    private static void withoutText() {
        NeverHalf x = right("", 0);
        CHECKS.due("no families", 0, x.count(0));
        CHECKS.due("no ovens", 0, x.count(1));
        right(" ", 0);
        right("\n", 0);
        right(" \n \n", 0);
    }

    private static void longestText() {
        CHECKS.due("its length", 900, LONGEST.length());
        CHECKS.due("the last byte is read", 999, right(LONGEST, 128).count(4));
        wrong(LONGEST.substring(0, 899) + "?", 1, 899);
        wrong(LONGEST.substring(0, 899) + "a", 2, 899);
        wrong(LONGEST.substring(0, 899) + " ", 2, 900);
        wrong(LONGEST.substring(0, 899), 2, 899);
        right(" ".repeat(893) + "oven 3;", 1);
    }

    /** The least and the greatest number are read, those beyond are faults at their first digit. */
    private static void bounds(String before, String behind, int least, int greatest) {
        int lines = before.split(";", -1).length;
        right(before + least + behind, lines);
        right(before + greatest + behind, lines);
        if (least > 0) {
            wrong(before + (least - 1) + behind, 3, before.length());
        }
        wrong(before + (greatest + 1) + behind, greatest < 999 ? 3 : 1, before.length());
        if (greatest < 999) {
            wrong(before + 999 + behind, 3, before.length());
        }
    }

    private static void numbersOfFamilies() {
        bounds("family ", ";", 0, 30);
        bounds("family ", " wish 1;", 0, 30);
        bounds("family 1 flour ", ";", 0, 999);
        bounds("family 1 flour ", " wish 1;", 0, 999);
        bounds("family 1 wish ", ";", 0, 99);
        bounds("family 1 flour 1 bread 1 wish ", ";", 0, 99);
        String ages = "keep 5;family 1 bread ";
        for (int age = 0; age < 5; age++) {
            bounds(ages + "1 ".repeat(age), ";", 0, 99);
            bounds(ages + "1 ".repeat(age), " wish 1;", 0, 99);
        }
        NeverHalf x = right("keep 5;family 30 flour 999 bread 99 0 99 0 98 wish 99;", 2);
        int[] due = {30, 999, 296, 99, 0, 0, 0, 0};
        for (int what = 0; what < due.length; what++) {
            CHECKS.due("the greatest, " + what, due[what], x.family(0, what));
        }
        int[] bread = {99, 0, 99, 0, 98};
        for (int age = 0; age < bread.length; age++) {
            CHECKS.due("bread of age " + age, bread[age], x.family(0, 10 + age));
        }
        NeverHalf least = right("family 0 flour 0 bread 0 wish 0;", 1);
        for (int what = 0; what < 8; what++) {
            CHECKS.due("the least, " + what, 0, least.family(0, what));
        }
    }

    private static void numbersOfOthers() {
        bounds("oven ", ";", 1, 60);
        bounds("oven 1;oven 60;oven ", ";", 1, 60);
        bounds("keep ", ";", 1, 5);
        bounds("fuel ", ";", 0, 999);
        CHECKS.due("oven 1", 1, right("oven 1;", 1).oven(0));
        CHECKS.due("oven 60", 60, right("oven 60;", 1).oven(0));
        CHECKS.due("keep 1", 1, right("keep 1;", 1).count(3));
        CHECKS.due("keep 5", 5, right("keep 5;", 1).count(3));
        CHECKS.due("fuel 0", 0, right("fuel 0;", 1).count(4));
        CHECKS.due("fuel 999", 999, right("fuel 999;", 1).count(4));
    }

    private static void numbersOfQuarrels() {
        bounds("family 1;family 1;family 1;quarrel ", " 1;", 0, 2);
        bounds("family 1;family 1;family 1;quarrel 1 ", ";", 0, 2);
        bounds(TEN + "quarrel ", " 5;", 0, 9);
        bounds(TEN + "quarrel 5 ", ";", 0, 9);
        wrong("quarrel 0 1;", 3, 8);
        wrong("family 1;quarrel 0 1;", 3, 19);
        wrong("family 1;quarrel 1 0;family 1;", 3, 17);
        wrong("family 1;quarrel 0 1;family 1;", 3, 19);
        wrong("family 1;quarrel 0 0;", 3, 19);
        wrong(TEN + "quarrel 9 9;", 3, 100);
        wrong(TEN + "quarrel 9 09;", 3, 100);
        StringBuilder all = new StringBuilder(TEN);
        for (int f = 0; f < 10; f++) {
            for (int g = 0; g < f; g++) {
                all.append("quarrel ").append(f).append(" ").append(g).append(";");
            }
        }
        NeverHalf x = right(all.toString(), 55);
        for (int f = 0; f < 10; f++) {
            for (int g = 0; g < 10; g++) {
                CHECKS.due("quarrel " + f + " " + g, f == g ? 0 : 1, x.quarrel(f, g));
            }
        }
        NeverHalf twice = right("family 1;family 1;quarrel 0 1;quarrel 0 1;", 4);
        CHECKS.due("twice is no other thing", 1, twice.quarrel(0, 1));
        CHECKS.due("the other way", 1, twice.quarrel(1, 0));
        NeverHalf both = right("family 1;family 1;quarrel 0 1;quarrel 1 0;", 4);
        CHECKS.due("each way", 1, both.quarrel(0, 1));
        CHECKS.due("each way", 1, both.quarrel(1, 0));
    }

    private static void unlessTold() {
        NeverHalf x = right("family 4;family 4 wish 3;family 4 bread 7;oven 5;", 4);
        int[] flour = {50, 50, 50};
        int[] wish = {0, 3, 0};
        int[] bread = {0, 0, 7};
        for (int f = 0; f < 3; f++) {
            CHECKS.due("flour of " + f, flour[f], x.family(f, 1));
            CHECKS.due("wish of " + f, wish[f], x.family(f, 3));
            CHECKS.due("bread of " + f, bread[f], x.family(f, 2));
            CHECKS.due("of age 0, " + f, bread[f], x.family(f, 10));
            CHECKS.due("those behind: none, 1", 0, x.family(f, 11));
            CHECKS.due("those behind: none, 2", 0, x.family(f, 12));
        }
        CHECKS.due("keep", 3, x.count(3));
        CHECKS.due("fuel", 20, x.count(4));
    }

    private static void digits() {
        CHECKS.due("one digit", 7, right("fuel 7;", 1).count(4));
        CHECKS.due("two digits", 70, right("fuel 70;", 1).count(4));
        CHECKS.due("three digits", 700, right("fuel 700;", 1).count(4));
        CHECKS.due("noughts ahead", 7, right("fuel 007;", 1).count(4));
        CHECKS.due("noughts alone", 0, right("fuel 000;", 1).count(4));
        wrong("fuel 0007;", 1, 5);
        wrong("fuel 1000;", 1, 5);
        wrong("fuel 0000", 1, 5);
        wrong("fuel 12345678901234567890;", 1, 5);
        wrong("fuel 4294967297;", 1, 5);
        wrong("1000", 1, 0);
        wrong("100", 2, 0);
        wrong("fuel 100 0;", 2, 9);
    }

    private static void howManyFamilies() {
        CHECKS.due("ten", 10, right(TEN, 10).count(0));
        wrong(TEN + "family 1;", 4, 90);
        wrong(TEN + "\n family 1;", 4, 92);
        wrong(TEN + "oven 1;family", 4, 97);
        right(TEN + "oven 1;oven 1;oven 1;fuel 1;quarrel 0 9;", 15);
        NeverHalf x = right("family 9;family 8;family 7;family 6;family 5;family 4;family 3;family 2;family 1;"
                + "family 0;", 10);
        for (int f = 0; f < 10; f++) {
            CHECKS.due("numbered as they come", 9 - f, x.family(f, 0));
        }
    }

    private static void howManyOvens() {
        NeverHalf x = right("oven 7;oven 8;oven 9;", 3);
        CHECKS.due("three", 3, x.count(1));
        for (int o = 0; o < 3; o++) {
            CHECKS.due("oven " + o, 7 + o, x.oven(o));
        }
        wrong("oven 7;oven 8;oven 9;oven 7;", 4, 21);
        wrong("oven 7;oven 8;oven 9;\noven", 4, 22);
        wrong("oven 7;oven 8;family 1;oven 9;oven 61;", 4, 30);
    }

    private static void breadByKeep() {
        for (int keep = 1; keep <= 5; keep++) {
            String ahead = "keep " + keep + ";family 1 bread";
            right(ahead + " 9".repeat(keep) + ";", 2);
            right(ahead + " 9".repeat(keep) + " wish 1;", 2);
            int place = ahead.length() + 2 * keep + 1;
            wrong(ahead + " 9".repeat(keep + 1) + ";", 4, place);
            wrong(ahead + " 9".repeat(keep) + "\n 99;", 4, place + 1);
            wrong(ahead + " 9".repeat(keep + 2) + ";", 4, place);
        }
        right("family 1 bread 9 9 9;", 1);
        wrong("family 1 bread 9 9 9 9;", 4, 21);
        wrong("family 1 bread;", 2, 14);
        wrong("family 1 bread wish 1;", 2, 15);
    }

    private static void keepAheadOfFamilies() {
        right("oven 5;fuel 3;keep 2;family 1;", 4);
        wrong("family 1;keep 2;", 2, 9);
        wrong("family 1;\nkeep 9;", 2, 10);
        wrong("keep 2;family 1;oven 3;keep 2;", 2, 23);
        wrong("family 1;keep", 2, 9);
    }

    private static void laterOnesStrike() {
        NeverHalf x = right("keep 5;keep 1;keep 2;fuel 999;fuel 0;family 1;fuel 7;", 7);
        CHECKS.due("keep", 2, x.count(3));
        CHECKS.due("fuel", 7, x.count(4));
        CHECKS.due("bread as many as the later keep", -2, x.family(0, 12));
        wrong("keep 5;keep 2;family 1 bread 1 2 3;", 4, 33);
    }

    private static boolean isLetter(int sign) {
        return sign >= 'a' && sign <= 'z';
    }

    private static boolean isDigit(int sign) {
        return sign >= '0' && sign <= '9';
    }

    /** Blanks may stand behind all; a token can't; other bytes begin none. */
    private static void everyByteBehind() {
        for (int sign = 0; sign < 256; sign++) {
            String text = "oven 5;" + (char) sign;
            if (sign == 10 || sign == 32) {
                right(text, 1);
            } else {
                wrong(text, isLetter(sign) || isDigit(sign) || sign == ';' ? 2 : 1, 7);
            }
        }
    }

    private static void everyByteBetween() {
        for (int sign = 0; sign < 256; sign++) {
            String text = "oven" + (char) sign + "5;";
            if (sign == 10 || sign == 32 || sign >= '0' && sign <= '5') {
                right(text, 1);
            } else if (isDigit(sign)) {
                wrong(text, 3, 4);
            } else {
                wrong(text, isLetter(sign) || sign == ';' ? 2 : 1, isLetter(sign) ? 0 : 4);
            }
        }
    }

    /** What is no letter ends a word, and that word can't stand there. */
    private static void everyByteInAWord() {
        for (int sign = 0; sign < 256; sign++) {
            String text = "ov" + (char) sign + "n 5;";
            if (sign == 'e') {
                right(text, 1);
            } else {
                wrong(text, 2, 0);
            }
        }
    }

    private static void words() {
        String[] all = {"family", "flour", "bread", "wish", "oven", "quarrel", "keep", "fuel"};
        String[] lines = {"family 1;", "family 1 flour 1;", "family 1 bread 1;", "family 1 wish 1;", "oven 1;",
            "family 1;family 1;quarrel 0 1;", "keep 1;", "fuel 1;"};
        for (int i = 0; i < all.length; i++) {
            int at = lines[i].lastIndexOf(all[i]);
            int count = lines[i].split(";").length;
            right(lines[i], count);
            right(lines[i].replace(" ", "\n \n"), count);
            right(lines[i].replace(" ", "").replace("01", "0 1"), count);
            String ahead = lines[i].substring(0, at);
            String rest = lines[i].substring(at + all[i].length());
            wrong(ahead + all[i].substring(1) + rest, 2, at);
            wrong(ahead + all[i].substring(0, all[i].length() - 1) + rest, 2, at);
            wrong(ahead + all[i] + "a" + rest, 2, at);
            wrong(ahead + "z" + all[i] + rest, 2, at);
            wrong(ahead + all[i].toUpperCase() + rest, 1, at);
            wrong(ahead + all[i] + ";", 2, at + all[i].length());
        }
    }

    private static void wordsWithAnotherLetter() {
        String[] lines = {"family 1;", "family 1 flour 1;", "family 1 bread 1;", "family 1 wish 1;", "oven 1;",
            "family 1;family 1;quarrel 0 1;", "keep 1;", "fuel 1;"};
        for (String line : lines) {
            int end = line.lastIndexOf(line.contains("quarrel") ? " 0" : " ");
            int at = Math.max(line.lastIndexOf(' ', end - 1), line.lastIndexOf(';', end - 1)) + 1;
            for (int i = at; i < end; i++) {
                wrong(line.substring(0, i) + "x" + line.substring(i + 1), 2, at);
                wrong(line.substring(0, i) + line.substring(i + 1), 2, at);
            }
        }
    }

    private static void wordsInPlaceOfNumbers() {
        String[] ahead = {"family ", "family 1 flour ", "family 1 bread ", "family 1 wish ", "oven ", "keep ", "fuel ",
            "family 1;family 1;quarrel ", "family 1;family 1;quarrel 0 "};
        String[] words = {"bake", "family", "flour", "bread", "wish", "oven", "quarrel", "keep", "fuel", ";"};
        for (String text : ahead) {
            for (String word : words) {
                wrong(text + word + ";", 2, text.length());
                wrong(text + word + " 1;", 2, text.length());
            }
        }
    }

    private static void wordsThatCanNotStandThere() {
        String[] lines = {"", "family 1;", "oven 1;"};
        String[] begun = {"family 1 ", "family 1 flour 1 ", "family 1 bread 1 ", "family 1 wish 1 ", "oven 1 ", "fuel 1 "};
        String[] none = {"bake", "flour", "bread", "wish", "1", "999", ";"};
        String[] first = {"family", "oven", "quarrel", "keep", "fuel", "bake"};
        for (String line : lines) {
            for (String word : none) {
                wrong(line + word + " 1;", 2, line.length());
            }
        }
        for (String text : begun) {
            for (String word : first) {
                wrong(text + word + " 1;", 2, text.length());
            }
        }
        String[] order = {"family 1 bread 1 flour 1;", "family 1 wish 1 flour 1;", "family 1 wish 1 bread 1;",
            "family 1 flour 1 flour 1;", "family 1 bread 1 bread 1;", "family 1 wish 1 wish 1;"};
        int[] places = {17, 16, 16, 17, 17, 16};
        for (int i = 0; i < order.length; i++) {
            wrong(order[i], 2, places[i]);
        }
    }

    /** Each text that ends ahead of its sign ; has its fault at its end. */
    private static void cutShort() {
        String[] lines = {"family 1 flour 2 bread 3 4 wish 5", "oven 6", "quarrel 0 1", "keep 2", "fuel 3"};
        for (String line : lines) {
            String ahead = line.startsWith("quarrel") ? "family 1;family 1;" : "";
            int at = ahead.length();
            for (int n = line.indexOf(' '); n <= line.length(); n++) {
                if (n == line.length() || line.charAt(n) == ' ') {
                    String text = ahead + line.substring(0, n);
                    wrong(text, 2, at + n);
                    wrong(text + "  \n", 2, at + n + 3);
                }
            }
            right(ahead + line + ";", at == 0 ? 1 : 3);
            right(ahead + line + " ;\n", at == 0 ? 1 : 3);
            wrong(ahead + line + ";;", 2, at + line.length() + 1);
            wrong(ahead + line + " 9;", 2, at + line.length() + 1);
        }
    }

    private static void endIsTheLength() {
        wrong("family", 2, 6);
        wrong("family ", 2, 7);
        wrong("family 1 flour", 2, 14);
        wrong("oven 5", 2, 6);
        NeverHalf x = new NeverHalf();
        Checks.feed(x, "oven 5;oven 6;      ".getBytes());
        CHECKS.due("the text's length, not the tape's", -32, x.village(12));
        CHECKS.due("its place", 12, x.fault(1));
        Checks.feed(x, "oven 5;oven 6;      ".getBytes());
        CHECKS.due("a token that the length cuts", 1, x.village(7));
        Checks.feed(x, "oven 15;            ".getBytes());
        CHECKS.due("a number that the length cuts", -32, x.village(6));
        CHECKS.due("its place", 6, x.fault(1));
    }

    /** What a longer text ahead had behind the end of this one is not read. */
    private static void nothingOfTheTextAhead() {
        String[] ahead = {"oven 15;", "fuel 555;", "fuelling;", "oven 5;oven 6;", "fuel 5          ;"};
        String[] texts = {"oven 1", "fuel 55", "fuel", "oven 5", "fuel 5"};
        for (int i = 0; i < ahead.length; i++) {
            NeverHalf x = new NeverHalf();
            Checks.tell(x, ahead[i]);
            CHECKS.due(texts[i], -32, Checks.tell(x, texts[i]));
            CHECKS.due(texts[i] + " its place", texts[i].length(), x.fault(1));
            NeverHalf y = new NeverHalf();
            Checks.feed(y, ahead[i].getBytes());
            CHECKS.due(texts[i] + " of a longer tape", -32, y.village(texts[i].length()));
            CHECKS.due(texts[i] + " its place", texts[i].length(), y.fault(1));
        }
    }

    private static void firstAlongTheText() {
        wrong("oven 61;family 31;?", 3, 5);
        wrong("family 31 ?;", 3, 7);
        wrong("oven ? 61;", 1, 5);
        wrong("oven wish 1000;", 2, 5);
        wrong("family 1;oven 0;keep 1;", 3, 14);
        wrong("family 1;keep 1;oven 0;", 2, 9);
        wrong(TEN + "family 99;oven 0;", 4, 90);
        wrong("oven 0;" + TEN + "family 1;", 3, 5);
        wrong("family 1 wish 100 flour 1000;", 3, 14);
    }

    private static void leastKindOfOneToken() {
        wrong("family 1000 1;", 1, 7);
        wrong("family 1 1000;", 1, 9);
        wrong("family 1 999;", 2, 9);
        wrong("oven 5 999;", 2, 7);
        wrong("999;", 2, 0);
        wrong("family 1 bread 1 1 1 100;", 3, 21);
        wrong("family 1 bread 1 1 1 1000;", 1, 21);
        wrong("family 1 bread 1 1 1 99;", 4, 21);
        wrong("family 1 bread 1 1 1 ?;", 1, 21);
        wrong(TEN + "oven 5 family 1;", 2, 97);
        wrong("oven 1;oven 1;oven 1;fuel 1 oven 1;", 2, 28);
        wrong("family 1;oven 1 keep 1;", 2, 16);
        wrong("family 1;family 1;quarrel 1 1000;", 1, 28);
    }

    private static int spaces(NeverHalf x) {
        return x.feed(0x20202020, 0x20202020, 0x20202020, 0x20202020, 0x20202020);
    }

    private static void feedBounds() {
        NeverHalf x = new NeverHalf();
        for (int n = 20; n <= 900; n += 20) {
            CHECKS.due("feed", n, spaces(x));
        }
        CHECKS.due("more than 900", -5, spaces(x));
        CHECKS.due("on the tape", 900, x.count(11));
        Twins full = new Twins(CHECKS, EdgeTextTest::fullTape);
        full.refused(-5, "feed", 0, 0, 0, 0, 0);
        full.refused(-5, "feed", -1, -1, -1, -1, -1);
        CHECKS.due("nothing came onto the full tape", 128, readAfterRefusal());
    }

    private static NeverHalf fullTape() {
        NeverHalf x = new NeverHalf();
        Checks.feed(x, LONGEST.getBytes());
        return x;
    }

    private static int readAfterRefusal() {
        NeverHalf x = fullTape();
        x.feed(0x3f3f3f3f, 0, 0, 0, 0);
        return x.village(900);
    }

    private static void feedBytes() {
        NeverHalf x = new NeverHalf();
        CHECKS.due("f u e l", 20, x.feed(0x6675656c, 0x20393939, 0x3b6f7665, 0x6e203630, 0x3b6b6565));
        CHECKS.due("p", 40, x.feed(0x7020353b, 0x20202020, 0x20202020, 0x20202020, 0x202020ff));
        CHECKS.due("fuel 999;oven 60;keep 5;", 3, x.village(24));
        CHECKS.due("fuel", 999, x.count(4));
        CHECKS.due("oven", 60, x.oven(0));
        CHECKS.due("keep", 5, x.count(3));
        CHECKS.due("from the tape's beginning again", 20, x.feed(0x6f76656e, 0x20313b20, 0x20202020, 0x20202020, 0x202020ff));
        CHECKS.due("the last byte", -31, x.village(20));
        CHECKS.due("its place", 19, x.fault(1));
    }

    private static void villageBounds() {
        Twins none = new Twins(CHECKS, NeverHalf::new);
        none.answers(0, "village", 0);
        none.refused(-3, "village", -1);
        none.refused(-3, "village", 1);
        none.refused(-3, "village", Integer.MAX_VALUE);
        none.refused(-3, "village", Integer.MIN_VALUE);
        Twins rich = Twins.rich(CHECKS);
        rich.refused(-3, "village", -1);
        rich.refused(-3, "village", 41);
        rich.refused(-3, "village", 900);
        rich.refused(-3, "village", 901);
        rich.answers(0, "village", 0);
        rich.answers(1, "village", 7);
        rich.answers(-32, "village", 40);
        Twins full = new Twins(CHECKS, EdgeTextTest::fullTape);
        full.answers(128, "village", 900);
        full.answers(127, "village", 889);
        full.refused(-3, "village", 901);
    }

    /** Whatever was there is gone, and the tape is empty. */
    private static void villageAnew() {
        NeverHalf x = Twins.richVillage();
        CHECKS.due("oven 3;", 1, x.village(7));
        int[] due = {0, 1, 0, 3, 20, 0, 0, 0, 0, 0, 0, 0, 1, 0};
        for (int what = 0; what < due.length; what++) {
            CHECKS.due("anew count(" + what + ")", due[what], x.count(what));
        }
        CHECKS.due("anew fault(0)", 0, x.fault(0));
        CHECKS.due("anew fault(1)", -1, x.fault(1));
        CHECKS.due("no family", -2, x.family(0, 0));
        CHECKS.due("the other ovens", -2, x.oven(1));
        CHECKS.due("rows stay", 9, x.write(0, 3, 9));
        CHECKS.due("images stay", 0, x.restore(0));
        CHECKS.due("as it was", 4, x.count(0));
        NeverHalf y = Twins.richVillage();
        CHECKS.due("no text", 0, y.village(0));
        CHECKS.due("the tape is empty", 0, y.count(11));
        CHECKS.due("no families", 0, y.count(0));
        CHECKS.due("day", 0, y.count(2));
    }

    /** Families have nothing of those ahead, whatever was asked of them. */
    private static void familiesAnew() {
        NeverHalf x = Checks.told("keep 4;fuel 37;family 9 flour 60 bread 1 2 3 90 wish 5;family 9 bread 0 0 0 50 wish 7;"
                + "oven 12;quarrel 0 1;");
        x.lend(0, 1, 10);
        x.fallOut(0, 1);
        x.fireWishes(0, 3);
        x.fallOut(0, 1);
        for (int i = 0; i < 9; i++) {
            x.day();
        }
        x.wish(0, 5);
        x.wish(1, 7);
        x.numbers(0, 0, 0);
        CHECKS.holds("hunger", x.family(0, 5) > 0 && x.family(1, 5) > 0);
        CHECKS.holds("stale", x.family(0, 6) > 0 && x.family(1, 6) > 0);
        CHECKS.due("judged", -1, x.judge(0, 0));
        CHECKS.due("a fault", -32, Checks.tell(x, "family 8 wish 8;family 8 wish 8"));
        CHECKS.due("judged", -1, x.judge(0, 0));
        CHECKS.due("lasts", 0, x.lasts(1));
        CHECKS.due("anew", 2, Checks.tell(x, "family 9;family 9;"));
        int[] due = {9, 50, 0, 0, 0, 0, 0, 0};
        for (int f = 0; f < 2; f++) {
            for (int what = 0; what < due.length; what++) {
                CHECKS.due("anew family(" + f + ", " + what + ")", due[what], x.family(f, what));
            }
            for (int age = 0; age < 3; age++) {
                CHECKS.due("no bread", 0, x.family(f, 10 + age));
            }
            CHECKS.due("no debt", 0, x.owed(f, 1 - f));
            CHECKS.due("no quarrel", 0, x.quarrel(f, 1 - f));
        }
        CHECKS.due("day", 0, x.count(2));
        CHECKS.due("keep", 3, x.count(3));
        CHECKS.due("fuel", 20, x.count(4));
        CHECKS.due("lines", 2, x.count(12));
    }

    private static void withoutOvensAnew() {
        NeverHalf x = Checks.told("oven 5;oven 7;oven 9;");
        CHECKS.due("with ovens", 1, x.canBake(12));
        CHECKS.due("anew", 1, Checks.tell(x, "family 1 wish 5;"));
        CHECKS.due("no oven", -2, x.oven(0));
        CHECKS.due("canBake(12)", 0, x.canBake(12));
        CHECKS.due("canBake(0)", 1, x.canBake(0));
        CHECKS.due("fires(5)", -1, x.fires(5));
        CHECKS.due("ways(5)", 0, x.ways(5));
        CHECKS.due("gap()", -4, x.gap());
        CHECKS.due("upTo(5)", -1, x.upTo(5));
        CHECKS.due("group(0, 0)", -2, x.group(0, 0));
        CHECKS.due("fills(1)", 0, x.fills(1));
        CHECKS.due("served(0)", 0, x.served(0));
        CHECKS.due("parted()", 0, x.parted());
        CHECKS.due("better(0)", -1, x.better(0));
        CHECKS.due("ahead(1, 0)", -5, x.ahead(1, 0));
        CHECKS.due("one oven anew", 1, Checks.tell(x, "oven 4;"));
        CHECKS.due("ways(8)", 1, x.ways(8));
        CHECKS.due("canBake(5)", 0, x.canBake(5));
        CHECKS.due("the others are gone", -2, x.oven(1));
    }

    private static void faultsOfTheLatest() {
        Twins none = new Twins(CHECKS, NeverHalf::new);
        none.asks(0, "fault", 0);
        none.asks(-1, "fault", 1);
        Twins rich = Twins.rich(CHECKS);
        rich.asks(3, "fault", 0);
        rich.asks(7, "fault", 1);
        int[] others = {-1, 2, 3, Integer.MAX_VALUE, Integer.MIN_VALUE};
        for (int what : others) {
            none.asks(-1, "fault", what);
            rich.asks(-1, "fault", what);
        }
        NeverHalf x = Twins.richVillage();
        CHECKS.due("not read", -3, x.village(41));
        CHECKS.due("that which was read", 3, x.fault(0));
        CHECKS.due("its place", 7, x.fault(1));
        CHECKS.due("read, with a fault", -32, x.village(24));
        CHECKS.due("the latest", 2, x.fault(0));
        CHECKS.due("its place", 24, x.fault(1));
        CHECKS.due("a fault at the first byte", -31, Checks.tell(x, "?"));
        CHECKS.due("the latest", 1, x.fault(0));
        CHECKS.due("its place", 0, x.fault(1));
        CHECKS.due("read without a fault", 0, x.village(0));
        CHECKS.due("none", 0, x.fault(0));
        CHECKS.due("no place", -1, x.fault(1));
    }

    /** All stays with a fault, but the tape is empty and the fault is told. */
    private static void faultStays() {
        String[] texts = {"?", "oven", "oven 61;", TEN + "family 1;", "keep 1;fuel 1;oven 1;family 1;quarrel 0 0;"};
        int[] kinds = {1, 2, 3, 4, 3};
        for (int i = 0; i < texts.length; i++) {
            NeverHalf x = Checks.told("keep 4;fuel 37;family 5 bread 1 2 3 4 wish 5;family 2;oven 5;quarrel 0 1;");
            x.fireWishes(0, 1);
            x.lend(0, 1, 3);
            x.day();
            CHECKS.due(texts[i], -30 - kinds[i], Checks.tell(x, texts[i]));
            CHECKS.due("fault " + kinds[i], kinds[i], x.fault(0));
            int[] due = {2, 1, 1, 4, 37, 95, 10, 0, 2, 0, 7, 0, 6, 3};
            for (int what = 0; what < due.length; what++) {
                CHECKS.due(texts[i] + " count(" + what + ")", due[what], x.count(what));
            }
            CHECKS.due("fuel owed", 37, x.family(0, 4));
            CHECKS.due("quarrel", 1, x.quarrel(1, 0));
            CHECKS.due("debt", 3, x.owed(1, 0));
            CHECKS.due("oven", 5, x.oven(0));
        }
    }
}
