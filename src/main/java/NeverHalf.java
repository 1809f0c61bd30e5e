import java.util.Arrays;

/** A village whose ovens are fired full or not at all; DOC.md says what each call answers. */
public final class NeverHalf {
    public static final int NONE = -1;

    private static final int NO_SUCH = -2;
    private static final int BAD_NUMBER = -3;
    private static final int TOO_MANY = -4;
    private static final int NOT_NOW = -5;
    private static final int MISSING = -6;
    private static final int NO_PLACE = -7;
    private static final int NO_FIRE = -10;
    private static final int BAD_TEXT = -30;

    private static final int MOST_FAMILIES = 10;
    private static final int MOST_OVENS = 3;
    private static final int MOST_KEEP = 5;
    private static final int MOST_EATS = 30;
    private static final int MOST_FLOUR = 999;
    private static final int MOST_BREAD = 99;
    private static final int MOST_WISH = 99;
    private static final int MOST_SIZE = 60;
    private static final int MOST_FUEL = 999;
    private static final int MOST_PARTED = 8;
    private static final int SETS = 1 << MOST_FAMILIES;
    private static final int LAST_DAY = 999;
    private static final int MOST_DRAWN = 30;
    private static final int MOST_LASTS = 99;
    private static final int MOST_SUM = 2000;
    private static final int MOST_UP_TO = 1900;
    private static final int MOST_AHEAD = 7;
    private static final int MOST_FIRES = 2;
    private static final int BY_AGE = 10;
    private static final int BY_DAY = 10;
    private static final int TAPE = 900;
    private static final int FED = 20;
    private static final int ROWS = 4;
    private static final int SORTS = 4;
    private static final int MOST_NUMBERS = 40;
    private static final int IMAGES = 2;
    private static final int FAR = 1 << 20;

    private final Village now;
    /** What must not touch the village yet is tried here first. */
    private final Village spare;
    private final Village[] images;
    private final boolean[] imageMade;
    private final Row[] rows;
    private final Reader reader;
    private final Bakery bakery;
    private final Sums sums;
    private final Groups groups;
    private final Debts debts;
    private final Outlook outlook;

    public NeverHalf() {
        now = new Village();
        spare = new Village();
        images = new Village[IMAGES];
        imageMade = new boolean[IMAGES];
        for (int i = 0; i < IMAGES; i++) {
            images[i] = new Village();
        }
        rows = new Row[ROWS];
        for (int i = 0; i < ROWS; i++) {
            rows[i] = new Row();
        }
        reader = new Reader();
        bakery = new Bakery();
        sums = new Sums();
        groups = new Groups();
        debts = new Debts();
        outlook = new Outlook();
    }

    // ---- the village

    public int feed(int a, int b, int c, int d, int e) {
        if (reader.fed + FED > TAPE) {
            return NOT_NOW;
        }
        reader.putBytes(a);
        reader.putBytes(b);
        reader.putBytes(c);
        reader.putBytes(d);
        reader.putBytes(e);
        return reader.fed;
    }

    public int village(int n) {
        if (n < 0 || n > reader.fed) {
            return BAD_NUMBER;
        }
        reader.read(n, spare);
        if (reader.faultKind != 0) {
            return BAD_TEXT - reader.faultKind;
        }
        now.become(spare);
        return now.lines;
    }

    public int fault(int what) {
        switch (what) {
            case 0:
                return reader.faultKind;
            case 1:
                return reader.faultPlace;
            default:
                return NONE;
        }
    }

    public int family(int f, int what) {
        if (!now.hasFamily(f)) {
            return NO_SUCH;
        }
        Family member = now.members[f];
        switch (what) {
            case 0:
                return member.eats;
            case 1:
                return member.flour;
            case 2:
                return member.allBread();
            case 3:
                return member.wish;
            case 4:
                return member.fuelOwed;
            case 5:
                return member.hunger;
            case 6:
                return member.stale;
            case 7:
                return now.balance(f);
            default:
                return breadOfAge(member, what);
        }
    }

    private int breadOfAge(Family member, int what) {
        if (what < BY_AGE || what >= BY_AGE + now.keep) {
            return NO_SUCH;
        }
        return member.bread[what - BY_AGE];
    }

    public int oven(int o) {
        return now.hasOven(o) ? now.sizes[o] : NO_SUCH;
    }

    public int quarrel(int f, int g) {
        if (!now.hasFamily(f) || !now.hasFamily(g)) {
            return NO_SUCH;
        }
        return now.members[f].foes >> g & 1;
    }

    public int fallOut(int f, int g) {
        if (!now.hasPair(f, g)) {
            return NO_SUCH;
        }
        now.members[f].foes ^= 1 << g;
        now.members[g].foes ^= 1 << f;
        return now.members[f].foes >> g & 1;
    }

    public int wish(int f, int n) {
        if (!now.hasFamily(f)) {
            return NO_SUCH;
        }
        if (n < 0 || n > MOST_WISH) {
            return BAD_NUMBER;
        }
        int before = now.members[f].wish;
        now.members[f].wish = n;
        return before;
    }

    public int mill(int f, int n) {
        if (!now.hasFamily(f)) {
            return NO_SUCH;
        }
        if (n < 0 || n > MOST_FLOUR) {
            return BAD_NUMBER;
        }
        Family member = now.members[f];
        member.flour = Math.min(MOST_FLOUR, member.flour + n);
        return member.flour;
    }

    // ---- fires, days

    public int fire(int o, int row) {
        if (!now.hasOven(o) || !isRow(row)) {
            return NO_SUCH;
        }
        if (!rows[row].there) {
            return MISSING;
        }
        if (rows[row].length != now.families) {
            return NO_PLACE;
        }
        return bakery.bakeRow(now, o, rows[row]);
    }

    public int fireWishes(int o, int set) {
        if (!now.hasOven(o)) {
            return NO_SUCH;
        }
        if (!now.hasSet(set)) {
            return BAD_NUMBER;
        }
        return bakery.bakeWishes(now, o, set);
    }

    public int judge(int row, int what) {
        if (!isRow(row) || what < 0 || what > 2) {
            return NO_SUCH;
        }
        if (!rows[row].there) {
            return MISSING;
        }
        spare.become(now);
        bakery.bakeAll(spare, rows[row]);
        switch (what) {
            case 0:
                return bakery.why == 0 ? NONE : bakery.made;
            case 1:
                return bakery.why;
            default:
                return bakery.loavesBaked;
        }
    }

    public int perform(int row) {
        if (!isRow(row)) {
            return NO_SUCH;
        }
        if (!rows[row].there) {
            return MISSING;
        }
        bakery.bakeAll(now, rows[row]);
        return bakery.made;
    }

    public int day() {
        return now.day >= LAST_DAY ? NOT_NOW : now.endDay();
    }

    public int drawn(int seed, int days) {
        if (days < 1 || days > MOST_DRAWN) {
            return BAD_NUMBER;
        }
        if (now.families == 0 || now.day + days > LAST_DAY) {
            return NOT_NOW;
        }
        int x = seed;
        int hunger = 0;
        for (int i = 0; i < days; i++) {
            x = nextDraw(x);
            int f = (x >>> 16) % now.families;
            x = nextDraw(x);
            now.members[f].changeEats((x >>> 16) % 3);
            hunger += now.endDay();
        }
        return hunger;
    }

    private static int nextDraw(int x) {
        return 1103515245 * x + 12345;
    }

    public int lasts(int f) {
        if (!now.hasFamily(f)) {
            return NO_SUCH;
        }
        Family trial = spare.members[0];
        trial.become(now.members[f]);
        for (int days = 0; days <= MOST_LASTS; days++) {
            if (trial.eat() > 0) {
                return days;
            }
            trial.ageBread(now.keep);
        }
        return NONE;
    }

    // ---- sums

    private static boolean isSum(int sum) {
        return sum >= 0 && sum <= MOST_SUM;
    }

    public int canBake(int sum) {
        if (!isSum(sum)) {
            return BAD_NUMBER;
        }
        sums.survey(now);
        return sums.isBaked(sum) ? 1 : 0;
    }

    public int fires(int sum) {
        return isSum(sum) ? sums.fewestFires(now, sum) : BAD_NUMBER;
    }

    public int ways(int sum) {
        return isSum(sum) ? sums.countWays(now, sum) : BAD_NUMBER;
    }

    public int gap() {
        sums.survey(now);
        return sums.greatestGap();
    }

    public int upTo(int n) {
        if (n < 0 || n > MOST_UP_TO) {
            return BAD_NUMBER;
        }
        sums.survey(now);
        return sums.leastFrom(n);
    }

    // ---- groups

    public int group(int o, int k) {
        if (!now.hasOven(o)) {
            return NO_SUCH;
        }
        groups.survey(now);
        return groups.pick(now, o, k, false);
    }

    public int fills(int set) {
        if (!now.hasSet(set)) {
            return BAD_NUMBER;
        }
        groups.survey(now);
        return groups.ovensFilled(now, set);
    }

    public int served(int what) {
        if (what < 0 || what > 2) {
            return NO_SUCH;
        }
        groups.survey(now);
        groups.findServed();
        switch (what) {
            case 0:
                return Integer.bitCount(groups.servedSet);
            case 1:
                return groups.table[groups.servedSet];
            default:
                return groups.servedSet;
        }
    }

    public int parted() {
        groups.survey(now);
        return Integer.bitCount(groups.wishers) > MOST_PARTED ? TOO_MANY : groups.countPartings();
    }

    public int together(int f) {
        if (!now.hasFamily(f)) {
            return NO_SUCH;
        }
        groups.survey(now);
        if (Integer.bitCount(groups.wishers) > MOST_PARTED) {
            return TOO_MANY;
        }
        return groups.alwaysWith(f);
    }

    public int stones(int o, int what) {
        if (!now.hasOven(o) || what < 0 || what > 1) {
            return NO_SUCH;
        }
        int size = now.sizes[o];
        if (now.greatestWish() > size) {
            return NONE;
        }
        groups.survey(now);
        int fewest = groups.fewestFires(size);
        return what == 0 ? fewest : fewest * size - now.allWishes();
    }

    public int leaves(int o, int set) {
        if (!now.hasOven(o)) {
            return NO_SUCH;
        }
        groups.survey(now);
        if (!now.hasSet(set) || groups.total[set] != now.sizes[o]) {
            return NOT_NOW;
        }
        return groups.leavers(now, o, set);
    }

    public int stable(int o, int k) {
        if (!now.hasOven(o)) {
            return NO_SUCH;
        }
        groups.survey(now);
        return groups.pick(now, o, k, true);
    }

    public int better(int what) {
        if (what < 0 || what > 2) {
            return NO_SUCH;
        }
        groups.survey(now);
        groups.findBetter(now);
        switch (what) {
            case 0:
                return groups.betterFamily;
            case 1:
                return groups.betterWish;
            default:
                return groups.betterCount;
        }
    }

    // ---- lending

    public int lend(int from, int to, int n) {
        if (!now.hasPair(from, to)) {
            return NO_SUCH;
        }
        if (n < 1 || n > now.members[from].flour) {
            return BAD_NUMBER;
        }
        if (now.members[to].flour + n > MOST_FLOUR) {
            return TOO_MANY;
        }
        return now.giveFlour(from, to, n);
    }

    public int owed(int from, int to) {
        if (!now.hasFamily(from) || !now.hasFamily(to)) {
            return NO_SUCH;
        }
        return now.members[from].owes[to];
    }

    public int ring(int k) {
        debts.findRing(now);
        if (debts.length == 0) {
            return NONE;
        }
        if (k == NONE) {
            return debts.length;
        }
        return k < 0 || k >= debts.length ? NONE : debts.chain[k];
    }

    public int clear() {
        return debts.clearRings(now);
    }

    public int payments() {
        return debts.fewestPayments(now);
    }

    // ---- ahead, marriages

    public int ahead(int n, int what) {
        boolean byDay = what >= BY_DAY && what < BY_DAY + MOST_AHEAD;
        if (!byDay && (what < 0 || what > 2)) {
            return NO_SUCH;
        }
        if (n < 1 || n > MOST_AHEAD) {
            return BAD_NUMBER;
        }
        if (now.ovens == 0) {
            return NOT_NOW;
        }
        if (byDay && what - BY_DAY >= n) {
            return NONE;
        }
        outlook.look(now, n, true);
        switch (what) {
            case 0:
                return outlook.leastHunger();
            case 1:
                return outlook.leastStale();
            case 2:
                return outlook.fewestFires();
            default:
                return outlook.bestPlan[what - BY_DAY];
        }
    }

    public int enough(int n) {
        if (n < 1 || n > MOST_AHEAD) {
            return BAD_NUMBER;
        }
        if (now.ovens == 0) {
            return NOT_NOW;
        }
        outlook.look(now, n, false);
        return outlook.leastHunger() > 0 ? NONE : outlook.fewestFires();
    }

    public int marry(int f, int g) {
        if (!now.hasPair(f, g)) {
            return NO_SUCH;
        }
        if ((now.members[f].foes >> g & 1) != 0) {
            return NOT_NOW;
        }
        now.unite(Math.min(f, g), Math.max(f, g));
        return now.families;
    }

    // ---- rows of numbers, images

    private static boolean isRow(int row) {
        return row >= 0 && row < ROWS;
    }

    private static boolean isImage(int i) {
        return i >= 0 && i < IMAGES;
    }

    public int numbers(int row, int sort, int n) {
        if (!isRow(row) || sort < 0 || sort >= SORTS) {
            return NO_SUCH;
        }
        if (n < 0 || n > MOST_NUMBERS) {
            return BAD_NUMBER;
        }
        rows[row].make(sort, n);
        return 0;
    }

    public long write(int row, int i, long v) {
        if (!isRow(row)) {
            return NO_SUCH;
        }
        if (!rows[row].there) {
            return MISSING;
        }
        if (i < 0 || i >= rows[row].length) {
            return NO_PLACE;
        }
        return rows[row].put(i, v);
    }

    public int copy(int row) {
        if (!isRow(row)) {
            return NO_SUCH;
        }
        if (!rows[row].there) {
            return MISSING;
        }
        if (rows[row].length < now.families) {
            return NO_PLACE;
        }
        for (int f = 0; f < now.families; f++) {
            rows[row].put(f, now.members[f].wish);
        }
        return now.families;
    }

    public int image(int i) {
        if (!isImage(i)) {
            return NO_SUCH;
        }
        images[i].become(now);
        imageMade[i] = true;
        return 0;
    }

    public int restore(int i) {
        if (!isImage(i)) {
            return NO_SUCH;
        }
        if (!imageMade[i]) {
            return NOT_NOW;
        }
        now.become(images[i]);
        return 0;
    }

    public int count(int what) {
        switch (what) {
            case 0:
                return now.families;
            case 1:
                return now.ovens;
            case 2:
                return now.day;
            case 3:
                return now.keep;
            case 4:
                return now.fuel;
            case 11:
                return reader.fed;
            case 12:
                return now.lines;
            default:
                return countOfAll(what);
        }
    }

    private int countOfAll(int what) {
        if (what < 5 || what > 13) {
            return NONE;
        }
        int all = 0;
        for (int f = 0; f < now.families; f++) {
            all += countOfOne(now.members[f], what);
        }
        return all;
    }

    private static int countOfOne(Family member, int what) {
        switch (what) {
            case 5:
                return member.flour;
            case 6:
                return member.allBread();
            case 7:
                return member.wish;
            case 8:
                return member.hunger;
            case 9:
                return member.stale;
            case 10:
                return member.eats;
            default:
                return member.allOwed();
        }
    }

    /** A family: what it has, whom it is at odds with (as bits), what it owes each other one. */
    private static final class Family {
        int eats;
        int flour;
        int wish;
        int fuelOwed;
        int hunger;
        int stale;
        int foes;
        final int[] bread = new int[MOST_KEEP];
        final int[] owes = new int[MOST_FAMILIES];

        void reset() {
            eats = 0;
            flour = 50;
            wish = 0;
            fuelOwed = 0;
            hunger = 0;
            stale = 0;
            foes = 0;
            Arrays.fill(bread, 0);
            Arrays.fill(owes, 0);
        }

        void become(Family other) {
            eats = other.eats;
            flour = other.flour;
            wish = other.wish;
            fuelOwed = other.fuelOwed;
            hunger = other.hunger;
            stale = other.stale;
            foes = other.foes;
            System.arraycopy(other.bread, 0, bread, 0, MOST_KEEP);
            System.arraycopy(other.owes, 0, owes, 0, MOST_FAMILIES);
        }

        int allBread() {
            int all = 0;
            for (int age = 0; age < MOST_KEEP; age++) {
                all += bread[age];
            }
            return all;
        }

        int allOwed() {
            int all = 0;
            for (int g = 0; g < MOST_FAMILIES; g++) {
                all += owes[g];
            }
            return all;
        }

        /** A draw's kind: 1 eats more, 2 eats less. */
        void changeEats(int kind) {
            if (kind == 1) {
                eats = Math.min(MOST_EATS, eats + 1);
            } else if (kind == 2) {
                eats = Math.max(0, eats - 1);
            }
        }

        /** Oldest bread first; answers what lacks. */
        int eat() {
            int lacks = eats;
            for (int age = MOST_KEEP - 1; age >= 0; age--) {
                int eaten = Math.min(bread[age], lacks);
                bread[age] -= eaten;
                lacks -= eaten;
            }
            return lacks;
        }

        /** Answers how many loaves went stale. */
        int ageBread(int keep) {
            int oldest = Math.max(0, Math.min(keep, MOST_KEEP) - 1);
            int gone = bread[oldest];
            for (int age = oldest; age > 0; age--) {
                bread[age] = bread[age - 1];
            }
            bread[0] = 0;
            return gone;
        }

        /** All but debts towards the other one and the others' debts, which need the village. */
        void absorb(Family other) {
            eats = Math.min(MOST_EATS, eats + other.eats);
            flour = Math.min(MOST_FLOUR, flour + other.flour);
            wish = Math.min(MOST_WISH, wish + other.wish);
            fuelOwed += other.fuelOwed;
            hunger += other.hunger;
            stale += other.stale;
            foes |= other.foes;
            for (int age = 0; age < MOST_KEEP; age++) {
                bread[age] = Math.min(MOST_BREAD, bread[age] + other.bread[age]);
            }
            for (int g = 0; g < MOST_FAMILIES; g++) {
                owes[g] += other.owes[g];
            }
        }

        /** Quarrels with and debts towards family high become those of family low. */
        void turnTo(int low, int high) {
            owes[low] += owes[high];
            for (int g = high; g < MOST_FAMILIES - 1; g++) {
                owes[g] = owes[g + 1];
            }
            owes[MOST_FAMILIES - 1] = 0;
            int merged = foes | (foes >> high & 1) << low;
            int below = merged & (1 << high) - 1;
            foes = below | merged >> high + 1 << high;
        }
    }

    /** The village as it stands. */
    private static final class Village {
        int families;
        int ovens;
        int keep;
        int fuel;
        int day;
        int lines;
        final Family[] members = new Family[MOST_FAMILIES];
        final int[] sizes = new int[MOST_OVENS];

        Village() {
            for (int f = 0; f < MOST_FAMILIES; f++) {
                members[f] = new Family();
            }
            keep = 3;
            fuel = 20;
        }

        void reset() {
            families = 0;
            ovens = 0;
            keep = 3;
            fuel = 20;
            day = 0;
            lines = 0;
        }

        void become(Village other) {
            families = other.families;
            ovens = other.ovens;
            keep = other.keep;
            fuel = other.fuel;
            day = other.day;
            lines = other.lines;
            System.arraycopy(other.sizes, 0, sizes, 0, MOST_OVENS);
            for (int f = 0; f < families; f++) {
                members[f].become(other.members[f]);
            }
        }

        boolean hasFamily(int f) {
            return f >= 0 && f < families;
        }

        boolean hasPair(int f, int g) {
            return hasFamily(f) && hasFamily(g) && f != g;
        }

        boolean hasOven(int o) {
            return o >= 0 && o < ovens;
        }

        boolean hasSet(int set) {
            return set >= 0 && set < 1 << families;
        }

        int balance(int f) {
            int balance = -members[f].allOwed();
            for (int g = 0; g < families; g++) {
                balance += members[g].owes[f];
            }
            return balance;
        }

        int allWishes() {
            int all = 0;
            for (int f = 0; f < families; f++) {
                all += members[f].wish;
            }
            return all;
        }

        int greatestWish() {
            int greatest = 0;
            for (int f = 0; f < families; f++) {
                greatest = Math.max(greatest, members[f].wish);
            }
            return greatest;
        }

        /** Fuel for some loaves of a fire of an oven. */
        int fuelFor(int loaves, int o) {
            int size = sizes[o];
            return size < 1 ? 0 : fuel * loaves / size;
        }

        /** Why a fire by these loaves can't be: 1 to 3 (0: it can). */
        int hindrance(int o, long[] loaves) {
            int bakers = 0;
            long sum = 0;
            for (int f = 0; f < families; f++) {
                if (loaves[f] < 0 || loaves[f] > members[f].flour) {
                    return 1;
                }
                if (loaves[f] > 0) {
                    bakers |= 1 << f;
                }
                sum += loaves[f];
            }
            for (int f = 0; f < families; f++) {
                if ((bakers >> f & 1) != 0 && (members[f].foes & bakers) != 0) {
                    return 2;
                }
            }
            return sum == sizes[o] ? 0 : 3;
        }

        /** A fire that nothing hinders; answers the fuel for it. */
        int bake(int o, long[] loaves) {
            int all = 0;
            for (int f = 0; f < families; f++) {
                int own = (int) loaves[f];
                int due = fuelFor(own, o);
                members[f].flour -= own;
                members[f].bread[0] += own;
                members[f].fuelOwed += due;
                all += due;
            }
            return all;
        }

        void dropWishes(int set) {
            for (int f = 0; f < families; f++) {
                if ((set >> f & 1) != 0) {
                    members[f].wish = 0;
                }
            }
        }

        /** Answers the loaves hungered for. */
        int endDay() {
            int all = 0;
            for (int f = 0; f < families; f++) {
                int lacks = members[f].eat();
                members[f].hunger += lacks;
                members[f].stale += members[f].ageBread(keep);
                all += lacks;
            }
            day++;
            return all;
        }

        /** Answers what the one that gets owes then. */
        int giveFlour(int from, int to, int n) {
            Family giver = members[from];
            Family getter = members[to];
            giver.flour -= n;
            getter.flour += n;
            int madeUp = Math.min(giver.owes[to], n);
            giver.owes[to] -= madeUp;
            getter.owes[from] += n - madeUp;
            return getter.owes[from];
        }

        void unite(int low, int high) {
            Family gone = members[high];
            members[low].absorb(gone);
            for (int f = 0; f < families; f++) {
                members[f].turnTo(low, high);
            }
            members[low].owes[low] = 0;
            for (int f = high; f < families - 1; f++) {
                members[f] = members[f + 1];
            }
            families--;
            members[families] = gone;
        }
    }

    /** A row of numbers, which may be missing. */
    private static final class Row {
        boolean there;
        int sort;
        int length;
        final long[] values = new long[MOST_NUMBERS];

        void make(int newSort, int n) {
            there = true;
            sort = newSort;
            length = n;
            Arrays.fill(values, 0L);
        }

        long put(int i, long v) {
            values[i] = cut(v);
            return values[i];
        }

        private long cut(long v) {
            switch (sort) {
                case 0:
                    return (byte) v;
                case 1:
                    return (short) v;
                case 2:
                    return (int) v;
                default:
                    return v;
            }
        }
    }

    /** Holds the tape, and reads its text into a village, up to the first fault. */
    private static final class Reader {
        private static final int END = 0;
        private static final int BLANK = 1;
        private static final int WORD = 2;
        private static final int NUMBER = 3;
        private static final int SEMICOLON = 4;
        private static final int NO_TOKEN = 5;

        private static final int BEGINS_NOT = 1;
        private static final int STANDS_NOT = 2;
        private static final int OUT_OF_BOUNDS = 3;
        private static final int ONE_TOO_MANY = 4;

        private static final int MOST_DIGITS = 3;

        int fed;
        int faultKind;
        int faultPlace = NONE;
        private final byte[] text = new byte[TAPE];
        private int length;
        private int token;
        private int value;
        private int place;
        private int behind;

        void putBytes(int four) {
            for (int shift = 24; shift >= 0 && fed < TAPE; shift -= 8) {
                text[fed] = (byte) (four >> shift);
                fed++;
            }
        }

        /** The tape is empty then, whatever the text is. */
        void read(int n, Village into) {
            length = Math.max(0, Math.min(n, fed));
            fed = 0;
            faultKind = 0;
            faultPlace = NONE;
            behind = 0;
            into.reset();
            advance();
            for (int i = 0; i <= length && token != END && faultKind == 0; i++) {
                readLine(into);
                into.lines++;
            }
        }

        private void readLine(Village into) {
            if (isWord("family")) {
                readFamily(into);
            } else if (isWord("oven")) {
                readOven(into);
            } else if (isWord("quarrel")) {
                readQuarrel(into);
            } else if (isWord("keep")) {
                readKeep(into);
            } else if (isWord("fuel")) {
                advance();
                into.fuel = readNumber(0, MOST_FUEL);
            } else {
                blame(STANDS_NOT);
            }
            if (token == SEMICOLON) {
                advance();
            } else {
                blame(STANDS_NOT);
            }
        }

        private void readFamily(Village into) {
            if (into.families >= MOST_FAMILIES) {
                blame(ONE_TOO_MANY);
                return;
            }
            Family member = into.members[into.families];
            into.families++;
            member.reset();
            advance();
            member.eats = readNumber(0, MOST_EATS);
            if (isWord("flour")) {
                advance();
                member.flour = readNumber(0, MOST_FLOUR);
            }
            if (isWord("bread")) {
                advance();
                readBread(member, into.keep);
            }
            if (isWord("wish")) {
                advance();
                member.wish = readNumber(0, MOST_WISH);
            }
        }

        private void readBread(Family member, int keep) {
            member.bread[0] = readNumber(0, MOST_BREAD);
            for (int age = 1; age < length && token == NUMBER && faultKind == 0; age++) {
                boolean kept = age < keep && age < MOST_KEEP;
                if (!kept && value <= MOST_BREAD) {
                    blame(ONE_TOO_MANY);
                }
                int loaves = readNumber(0, MOST_BREAD);
                if (kept) {
                    member.bread[age] = loaves;
                }
            }
        }

        private void readOven(Village into) {
            if (into.ovens >= MOST_OVENS) {
                blame(ONE_TOO_MANY);
                return;
            }
            advance();
            into.sizes[into.ovens] = readNumber(1, MOST_SIZE);
            into.ovens++;
        }

        private void readQuarrel(Village into) {
            advance();
            int f = readNumber(0, into.families - 1);
            if (token == NUMBER && value == f) {
                blame(OUT_OF_BOUNDS);
            }
            int g = readNumber(0, into.families - 1);
            if (faultKind == 0) {
                into.members[f].foes |= 1 << g;
                into.members[g].foes |= 1 << f;
            }
        }

        private void readKeep(Village into) {
            if (into.families > 0) {
                blame(STANDS_NOT);
                return;
            }
            advance();
            into.keep = readNumber(1, MOST_KEEP);
        }

        /** The number that stands here; 0 where none can, which is a fault then. */
        private int readNumber(int least, int greatest) {
            if (token != NUMBER) {
                blame(STANDS_NOT);
                return 0;
            }
            if (value < least || value > greatest) {
                blame(OUT_OF_BOUNDS);
                return 0;
            }
            int number = value;
            advance();
            return number;
        }

        /** Only the first fault along the text counts; what is no token is that before all else. */
        private void blame(int kind) {
            if (faultKind == 0) {
                faultKind = token == NO_TOKEN ? BEGINS_NOT : kind;
                faultPlace = place;
            }
        }

        /** A token is of the kind of its first sign, and as long as such signs go on. */
        private void advance() {
            place = behind;
            while (place < length && kindOf(text[place]) == BLANK) {
                place++;
            }
            behind = place;
            if (place >= length) {
                token = END;
                return;
            }
            token = kindOf(text[place]);
            behind++;
            if (token == WORD || token == NUMBER) {
                while (behind < length && kindOf(text[behind]) == token) {
                    behind++;
                }
            }
            if (token == NUMBER) {
                takeValue();
            }
        }

        private void takeValue() {
            if (behind - place > MOST_DIGITS) {
                token = NO_TOKEN;
                return;
            }
            value = 0;
            for (int i = place; i < behind; i++) {
                value = value * 10 + text[i] - '0';
            }
        }

        private boolean isWord(String word) {
            if (token != WORD || behind - place != word.length()) {
                return false;
            }
            for (int i = 0; i < word.length(); i++) {
                if (text[place + i] != word.charAt(i)) {
                    return false;
                }
            }
            return true;
        }

        private static int kindOf(int sign) {
            if (sign == 10 || sign == 32) {
                return BLANK;
            } else if (sign >= 'a' && sign <= 'z') {
                return WORD;
            } else if (sign >= '0' && sign <= '9') {
                return NUMBER;
            }
            return sign == ';' ? SEMICOLON : NO_TOKEN;
        }
    }

    /** Makes fires, one or a row of them up to the first that can't be. */
    private static final class Bakery {
        private static final int NO_OVEN_OR_SET = 4;

        int made;
        int why;
        int loavesBaked;
        private final long[] loaves = new long[MOST_FAMILIES];

        int bakeRow(Village in, int o, Row row) {
            System.arraycopy(row.values, 0, loaves, 0, MOST_FAMILIES);
            int hindrance = in.hindrance(o, loaves);
            return hindrance == 0 ? in.bake(o, loaves) : NO_FIRE - hindrance;
        }

        int bakeWishes(Village in, int o, int set) {
            for (int f = 0; f < in.families; f++) {
                loaves[f] = (set >> f & 1) != 0 ? in.members[f].wish : 0;
            }
            int hindrance = in.hindrance(o, loaves);
            if (hindrance != 0) {
                return NO_FIRE - hindrance;
            }
            in.dropWishes(set);
            return in.bake(o, loaves);
        }

        void bakeAll(Village in, Row row) {
            made = 0;
            why = 0;
            loavesBaked = 0;
            for (int i = 0; i < row.length && why == 0; i++) {
                why = bakeTold(in, row.values[i]);
            }
        }

        /** Answers why the fire that a number tells can't be (0: it was made). */
        private int bakeTold(Village in, long told) {
            long o = told >> MOST_FAMILIES;
            int set = (int) (told & SETS - 1);
            if (o < 0 || o >= in.ovens || !in.hasSet(set)) {
                return NO_OVEN_OR_SET;
            }
            int fuel = bakeWishes(in, (int) o, set);
            if (fuel < 0) {
                return NO_FIRE - fuel;
            }
            made++;
            loavesBaked += in.sizes[(int) o];
            return 0;
        }
    }

    /** Which sums full ovens bake. */
    private static final class Sums {
        /** By remainder modulo the first oven's size: the least sum that can be baked (FAR: none). */
        private final int[] least = new int[MOST_SIZE];
        private int modulus;
        private final int[] table = new int[MOST_SUM + 1];

        /** Without ovens the modulus is 0. */
        void survey(Village in) {
            modulus = in.ovens == 0 ? 0 : in.sizes[0];
            Arrays.fill(least, FAR);
            least[0] = 0;
            for (int o = 1; o < in.ovens; o++) {
                admit(in.sizes[o]);
            }
        }

        /** Twice around each cycle of remainders is enough for an oven more. */
        private void admit(int size) {
            int cycles = commonDivisor(size, modulus);
            if (cycles < 1) {
                return;
            }
            for (int start = 0; start < cycles; start++) {
                walk(start, size, 2 * (modulus / cycles));
            }
        }

        private void walk(int start, int size, int steps) {
            if (modulus < 1 || modulus > MOST_SIZE) {
                return;
            }
            int at = start % modulus;
            for (int i = 0; i < steps; i++) {
                int next = (at + size) % modulus;
                least[next] = Math.min(least[next], least[at] + size);
                at = next;
            }
        }

        private static int commonDivisor(int a, int b) {
            int greater = a;
            int lesser = b;
            for (int i = 0; i <= MOST_SIZE && lesser > 0; i++) {
                int left = greater % lesser;
                greater = lesser;
                lesser = left;
            }
            return greater;
        }

        boolean isBaked(int sum) {
            if (modulus < 1) {
                return sum == 0;
            }
            return least[sum % modulus] <= sum;
        }

        int greatestGap() {
            if (modulus < 1) {
                return TOO_MANY;
            }
            int greatest = 0;
            for (int i = 0; i < modulus; i++) {
                greatest = Math.max(greatest, least[i]);
            }
            if (greatest >= FAR) {
                return TOO_MANY;
            }
            return greatest > modulus ? greatest - modulus : NONE;
        }

        int leastFrom(int n) {
            for (int sum = n; sum <= n + MOST_SIZE; sum++) {
                if (isBaked(sum)) {
                    return sum;
                }
            }
            return NONE;
        }

        int fewestFires(Village in, int sum) {
            table[0] = 0;
            for (int s = 1; s <= sum; s++) {
                table[s] = FAR;
                for (int o = 0; o < in.ovens; o++) {
                    if (in.sizes[o] <= s) {
                        table[s] = Math.min(table[s], table[s - in.sizes[o]] + 1);
                    }
                }
            }
            return table[sum] >= FAR ? NONE : table[sum];
        }

        int countWays(Village in, int sum) {
            Arrays.fill(table, 0);
            table[0] = 1;
            for (int o = 0; o < in.ovens; o++) {
                int size = in.sizes[o];
                for (int s = size; s <= sum; s++) {
                    table[s] += table[s - size];
                }
            }
            return table[sum];
        }
    }

    /** Who may bake together, by sets of families as bits. */
    private static final class Groups {
        private static final int FEWEST = 0;
        private static final int WAYS = 1;
        private static final int MOST = 2;

        int wishers;
        int servedSet;
        int betterFamily;
        int betterWish;
        int betterCount;
        /** Wishes of a set together; NONE: one has no wish, two quarrel. */
        final int[] total = new int[SETS];
        final int[] table = new int[SETS];
        private int full;
        /** All sets that fill an oven, the least first. */
        private final int[] found = new int[SETS];
        private int foundCount;
        /** Sets that a table may be put together from. */
        private final boolean[] fit = new boolean[SETS];

        void survey(Village in) {
            full = (1 << in.families) - 1;
            wishers = 0;
            foundCount = 0;
            total[0] = 0;
            for (int f = 0; f < in.families; f++) {
                Family member = in.members[f];
                int bit = 1 << f;
                if (member.wish > 0) {
                    wishers |= bit;
                }
                for (int rest = 0; rest < bit; rest++) {
                    total[bit + rest] = totalWith(member, rest);
                    if (ovensFilled(in, bit + rest) != 0) {
                        found[foundCount] = bit + rest;
                        foundCount++;
                    }
                }
            }
        }

        private int totalWith(Family member, int rest) {
            boolean joins = member.wish > 0 && total[rest] >= 0 && (member.foes & rest) == 0;
            return joins ? total[rest] + member.wish : NONE;
        }

        /** The ovens of which a set is a group, as bits. */
        int ovensFilled(Village in, int set) {
            int bits = 0;
            for (int o = 0; o < in.ovens; o++) {
                if (total[set] == in.sizes[o]) {
                    bits |= 1 << o;
                }
            }
            return bits;
        }

        /** The k-th group of an oven (k NONE: how many). */
        int pick(Village in, int o, int k, boolean stableOnly) {
            int seen = 0;
            for (int i = 0; i < foundCount; i++) {
                int set = found[i];
                boolean counts = total[set] == in.sizes[o];
                if (counts && stableOnly) {
                    counts = leavers(in, o, set) == 0;
                }
                if (counts && seen == k) {
                    return set;
                }
                if (counts) {
                    seen++;
                }
            }
            return k == NONE ? seen : NONE;
        }

        /** Only a greater oven can be cheaper for one that leaves. */
        int leavers(Village in, int o, int set) {
            int gone = 0;
            for (int p = 0; p < in.ovens && gone != set; p++) {
                if (in.sizes[p] > in.sizes[o]) {
                    gone |= leaversTo(in, p, o, set);
                }
            }
            return gone;
        }

        private int leaversTo(Village in, int p, int o, int set) {
            int noGain = ~cheaperThanIn(in, p, o);
            int noGainOutside = ~cheaperThanAlone(in, p);
            int gone = 0;
            for (int i = 0; i < foundCount && gone != set; i++) {
                int other = found[i];
                boolean allGain = (other & set & noGain) == 0 && (other & ~set & noGainOutside) == 0;
                if (allGain && total[other] == in.sizes[p]) {
                    gone |= other & set;
                }
            }
            return gone;
        }

        private static int cheaperThanIn(Village in, int p, int o) {
            int bits = 0;
            for (int f = 0; f < in.families; f++) {
                int wish = in.members[f].wish;
                if (in.fuelFor(wish, p) < in.fuelFor(wish, o)) {
                    bits |= 1 << f;
                }
            }
            return bits;
        }

        private static int cheaperThanAlone(Village in, int p) {
            int bits = 0;
            for (int f = 0; f < in.families; f++) {
                if (in.fuelFor(in.members[f].wish, p) < in.fuel) {
                    bits |= 1 << f;
                }
            }
            return bits;
        }

        void findServed() {
            fitGroups();
            fillTable(FEWEST);
            servedSet = 0;
            for (int set = 1; set <= wishers; set++) {
                if (isOfWishers(set) && table[set] < FAR && servesBetter(set)) {
                    servedSet = set;
                }
            }
        }

        /** Sets come with the least first, so that like ones don't count as better. */
        private boolean servesBetter(int set) {
            int more = Integer.bitCount(set) - Integer.bitCount(servedSet);
            return more > 0 || more == 0 && table[set] < table[servedSet];
        }

        int countPartings() {
            fitGroups();
            fillTable(WAYS);
            return table[wishers];
        }

        int alwaysWith(int f) {
            int bit = 1 << f;
            if ((wishers & bit) == 0 || countPartings() == 0) {
                return 0;
            }
            int always = wishers;
            for (int i = 0; i < foundCount; i++) {
                int set = found[i];
                if ((set & bit) != 0 && table[wishers & ~set] > 0) {
                    always &= set;
                }
            }
            return always & ~bit;
        }

        /** The fewest fires of one size for all wishers, none of whom wishes more, with stones. */
        int fewestFires(int size) {
            for (int set = 0; set <= full; set++) {
                fit[set] = total[set] >= 0 && total[set] <= size;
            }
            fillTable(FEWEST);
            return table[wishers];
        }

        /** Whoever is served more by another wish of one family is so by a group with that family. */
        void findBetter(Village in) {
            fitGroups();
            fillTable(MOST);
            betterFamily = NONE;
            betterWish = NONE;
            betterCount = table[wishers];
            for (int f = 0; f < in.families; f++) {
                for (int set = 0; set <= full; set++) {
                    boolean joins = (set >> f & 1) == 0 && (set & in.members[f].foes) == 0;
                    if (joins && total[set] >= 0) {
                        tryWishes(in, f, set);
                    }
                }
            }
        }

        private void tryWishes(Village in, int f, int set) {
            int count = 1 + Integer.bitCount(set) + table[wishers & ~set & ~(1 << f)];
            if (count < betterCount) {
                return;
            }
            for (int o = 0; o < in.ovens; o++) {
                int wish = in.sizes[o] - total[set];
                boolean can = wish >= 1 && wish <= MOST_WISH;
                boolean lesser = count == betterCount && f == betterFamily && wish < betterWish;
                if (can && (count > betterCount || lesser)) {
                    betterFamily = f;
                    betterWish = wish;
                    betterCount = count;
                }
            }
        }

        private void fitGroups() {
            for (int set = 0; set <= full; set++) {
                fit[set] = false;
            }
            for (int i = 0; i < foundCount; i++) {
                fit[found[i]] = true;
            }
        }

        private boolean isOfWishers(int set) {
            return (set & ~wishers) == 0;
        }

        /** For every set of wishers, from what fits: the fewest parts, ways to part it, the most it serves. */
        private void fillTable(int kind) {
            table[0] = kind == WAYS ? 1 : 0;
            for (int set = 1; set <= wishers; set++) {
                if (isOfWishers(set)) {
                    table[set] = cell(kind, set);
                }
            }
        }

        /** The first family of a set is in just one part, so each parting is met once. */
        private int cell(int kind, int set) {
            int first = set & -set;
            int rest = set ^ first;
            int value = startOf(kind, rest);
            int sub = rest;
            for (int i = 0; i < SETS; i++) {
                if (fit[first | sub]) {
                    value = joined(kind, value, first | sub, table[rest & ~sub]);
                }
                if (sub == 0) {
                    break;
                }
                sub = sub - 1 & rest;
            }
            return value;
        }

        private int startOf(int kind, int rest) {
            switch (kind) {
                case FEWEST:
                    return FAR;
                case WAYS:
                    return 0;
                default:
                    return table[rest];
            }
        }

        private static int joined(int kind, int value, int part, int left) {
            switch (kind) {
                case FEWEST:
                    return Math.min(value, left + 1);
                case WAYS:
                    return value + left;
                default:
                    return Math.max(value, left + Integer.bitCount(part));
            }
        }
    }

    /** Rings of debts, and the fewest payments. */
    private static final class Debts {
        int length;
        final int[] chain = new int[MOST_FAMILIES];
        /** Whom each one owes, as bits. */
        private final int[] creditors = new int[MOST_FAMILIES];
        /** How many debts lead from each one back to where a ring begins. */
        private final int[] steps = new int[MOST_FAMILIES];
        private final int[] sum = new int[SETS];
        private final int[] parts = new int[SETS];

        void findRing(Village in) {
            gatherCreditors(in);
            length = 0;
            for (int a = 0; a < in.families && length == 0; a++) {
                measure(in.families, a);
                traceFrom(in.families, a);
            }
        }

        private void gatherCreditors(Village in) {
            for (int f = 0; f < in.families; f++) {
                creditors[f] = 0;
                for (int g = 0; g < in.families; g++) {
                    if (in.members[f].owes[g] > 0) {
                        creditors[f] |= 1 << g;
                    }
                }
            }
        }

        private void measure(int families, int a) {
            Arrays.fill(steps, FAR);
            steps[a] = 0;
            int seen = 1 << a;
            int edge = seen;
            for (int step = 1; step < families && edge != 0; step++) {
                int next = 0;
                for (int f = 0; f < families; f++) {
                    if ((seen >> f & 1) == 0 && (creditors[f] & edge) != 0) {
                        steps[f] = step;
                        next |= 1 << f;
                    }
                }
                seen |= next;
                edge = next;
            }
        }

        private void traceFrom(int families, int a) {
            int left = FAR;
            for (int f = 0; f < families; f++) {
                if ((creditors[a] >> f & 1) != 0) {
                    left = Math.min(left, steps[f]);
                }
            }
            if (left >= FAR || left >= families) {
                return;
            }
            length = left + 1;
            chain[0] = a;
            for (int i = 1; i < length; i++) {
                chain[i] = nextOn(families, chain[i - 1], length - i);
            }
        }

        /** The first that one owes and from which so many debts lead back. */
        private int nextOn(int families, int from, int left) {
            for (int f = 0; f < families; f++) {
                if ((creditors[from] >> f & 1) != 0 && steps[f] == left) {
                    return f;
                }
            }
            return 0;
        }

        /** Each ring that goes takes a debt with it, so there are no more of them than debts. */
        int clearRings(Village in) {
            int gone = 0;
            for (int i = 0; i < MOST_FAMILIES * MOST_FAMILIES; i++) {
                findRing(in);
                if (length == 0) {
                    break;
                }
                takeOff(in, leastDebt(in));
                gone++;
            }
            return gone;
        }

        private int nextInChain(int i) {
            return i + 1 < length ? chain[i + 1] : chain[0];
        }

        private int leastDebt(Village in) {
            int least = in.members[chain[0]].owes[nextInChain(0)];
            for (int i = 1; i < length; i++) {
                least = Math.min(least, in.members[chain[i]].owes[nextInChain(i)]);
            }
            return least;
        }

        private void takeOff(Village in, int n) {
            for (int i = 0; i < length; i++) {
                in.members[chain[i]].owes[nextInChain(i)] -= n;
            }
        }

        /** A part whose balances are nought together needs one payment less than it has families. */
        int fewestPayments(Village in) {
            int full = (1 << in.families) - 1;
            sum[0] = 0;
            parts[0] = 0;
            for (int f = 0; f < in.families; f++) {
                int bit = 1 << f;
                int balance = in.balance(f);
                for (int rest = 0; rest < bit; rest++) {
                    sum[bit + rest] = sum[rest] + balance;
                    parts[bit + rest] = mostParts(in.families, bit + rest);
                }
            }
            return in.families - parts[full];
        }

        private int mostParts(int families, int set) {
            int most = 0;
            for (int f = 0; f < families; f++) {
                if ((set >> f & 1) != 0) {
                    most = Math.max(most, parts[set & ~(1 << f)]);
                }
            }
            return sum[set] == 0 ? most + 1 : most;
        }
    }

    /** Days ahead for the village as one. */
    private static final class Outlook {
        /** A score is hunger, stale, fires in one number, so that the least is the best. */
        private static final int HUNGER_SHIFT = 40;
        private static final int STALE_SHIFT = 4;
        private static final long UNSEEN = 1L << 62;

        final int[] bestPlan = new int[MOST_AHEAD];
        private final int[] plan = new int[MOST_AHEAD];
        /** The village as one family, at the beginning of each day. */
        private final Family[] mornings = new Family[MOST_AHEAD + 1];
        private int days;
        private int keep;
        private int size;
        private boolean staleCounts;
        private long bestScore;

        Outlook() {
            for (int i = 0; i <= MOST_AHEAD; i++) {
                mornings[i] = new Family();
            }
        }

        void look(Village in, int n, boolean countStale) {
            days = Math.max(0, Math.min(n, MOST_AHEAD));
            keep = in.keep;
            size = in.sizes[0];
            staleCounts = countStale;
            bestScore = UNSEEN;
            gather(in);
            search(0, 0L);
        }

        int leastHunger() {
            return (int) (bestScore >> HUNGER_SHIFT);
        }

        int leastStale() {
            long above = bestScore >> HUNGER_SHIFT << HUNGER_SHIFT;
            return (int) (bestScore - above >> STALE_SHIFT);
        }

        int fewestFires() {
            return (int) (bestScore & (1 << STALE_SHIFT) - 1);
        }

        private void gather(Village in) {
            Family all = mornings[0];
            all.eats = 0;
            Arrays.fill(all.bread, 0);
            for (int f = 0; f < in.families; f++) {
                all.eats += in.members[f].eats;
                for (int age = 0; age < MOST_KEEP; age++) {
                    all.bread[age] += in.members[f].bread[age];
                }
            }
        }

        /** Scores only grow along a row, and rows come with the first first. */
        private void search(int depth, long score) {
            if (score >= bestScore) {
                return;
            }
            if (depth >= days || depth >= MOST_AHEAD) {
                bestScore = score;
                System.arraycopy(plan, 0, bestPlan, 0, MOST_AHEAD);
                return;
            }
            for (int fires = 0; fires <= MOST_FIRES; fires++) {
                plan[depth] = fires;
                search(depth + 1, score + scoreOfDay(depth, fires));
            }
        }

        private long scoreOfDay(int depth, int fires) {
            Family next = mornings[depth + 1];
            next.eats = mornings[depth].eats;
            System.arraycopy(mornings[depth].bread, 0, next.bread, 0, MOST_KEEP);
            next.bread[0] += fires * size;
            long hunger = next.eat();
            long stale = next.ageBread(keep);
            return (hunger << HUNGER_SHIFT) + (staleCounts ? stale << STALE_SHIFT : 0L) + fires;
        }
    }
}
