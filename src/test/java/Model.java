import java.nio.charset.StandardCharsets;
import java.util.ArrayList;
import java.util.Arrays;
import java.util.IdentityHashMap;
import java.util.List;
import java.util.Map;
import java.util.TreeSet;
import java.util.regex.Matcher;
import java.util.regex.Pattern;

/**
 * The document once more, told as plainly as can be: everything is tried out, nothing is clever.
 * It is for small villages, as its time grows fast.
 */
public final class Model {
    private static final Pattern TOKEN = Pattern.compile("[a-z]+|[0-9]+|;|[^ \n]");

    /** Debts and quarrels are by family, not by number, so that a marriage needs no numbering. */
    private static final class Family {
        int eats;
        int flour = 50;
        int wish;
        int fuel;
        int hunger;
        int stale;
        List<Integer> bread = new ArrayList<>();
        Map<Family, Integer> owes = new IdentityHashMap<>();
        Map<Family, Boolean> foes = new IdentityHashMap<>();

        int debt(Family to) {
            return owes.getOrDefault(to, 0);
        }
    }

    private static final class State {
        List<Family> families = new ArrayList<>();
        List<Integer> ovens = new ArrayList<>();
        int keep = 3;
        int fuel = 20;
        int day;
        int lines;

        State copied() {
            State s = new State();
            s.ovens.addAll(ovens);
            s.keep = keep;
            s.fuel = fuel;
            s.day = day;
            s.lines = lines;
            Map<Family, Family> twin = new IdentityHashMap<>();
            for (Family f : families) {
                Family t = new Family();
                t.eats = f.eats;
                t.flour = f.flour;
                t.wish = f.wish;
                t.fuel = f.fuel;
                t.hunger = f.hunger;
                t.stale = f.stale;
                t.bread.addAll(f.bread);
                twin.put(f, t);
                s.families.add(t);
            }
            for (Family f : families) {
                for (Family g : families) {
                    twin.get(f).owes.put(twin.get(g), f.debt(g));
                    if (f.foes.containsKey(g)) {
                        twin.get(f).foes.put(twin.get(g), true);
                    }
                }
            }
            return s;
        }
    }

    private static final class Fault extends Exception {
        private static final long serialVersionUID = 1;
        final int kind;
        final int place;

        Fault(int kind, int place) {
            this.kind = kind;
            this.place = place;
        }
    }

    private String tape = "";
    private int faultKind;
    private int faultPlace = -1;
    private State s = new State();
    private final State[] images = new State[2];
    private final long[][] rows = new long[4][];
    private final int[] sorts = new int[4];

    // ---- the village

    public int feed(int a, int b, int c, int d, int e) {
        if (tape.length() > 880) {
            return -5;
        }
        byte[] bytes = java.nio.ByteBuffer.allocate(20).putInt(a).putInt(b).putInt(c).putInt(d).putInt(e).array();
        tape += new String(bytes, StandardCharsets.ISO_8859_1);
        return tape.length();
    }

    public int village(int n) {
        if (n < 0 || n > tape.length()) {
            return -3;
        }
        String text = tape.substring(0, n);
        tape = "";
        try {
            s = parsed(text);
            faultKind = 0;
            faultPlace = -1;
            return s.lines;
        } catch (Fault f) {
            faultKind = f.kind;
            faultPlace = f.place;
            return -30 - f.kind;
        }
    }

    private List<String> words;
    private List<Integer> places;
    private int at;

    private State parsed(String text) throws Fault {
        words = new ArrayList<>();
        places = new ArrayList<>();
        Matcher m = TOKEN.matcher(text);
        while (m.find()) {
            words.add(m.group());
            places.add(m.start());
        }
        words.add("");
        places.add(text.length());
        at = 0;
        State t = new State();
        while (!peek().isEmpty()) {
            line(t);
            need(";".equals(peek()), 2);
            at++;
            t.lines++;
        }
        return t;
    }

    /** The next token; one that is none is told at once. */
    private String peek() throws Fault {
        String word = words.get(at);
        if (!word.matches("[a-z]*|[0-9]{1,3}|;")) {
            throw new Fault(1, places.get(at));
        }
        return word;
    }

    private void need(boolean right, int kind) throws Fault {
        if (!right) {
            throw new Fault(kind, places.get(at));
        }
    }

    private int number(int least, int greatest) throws Fault {
        need(peek().matches("[0-9]+"), 2);
        int v = Integer.parseInt(peek());
        need(v >= least && v <= greatest, 3);
        at++;
        return v;
    }

    private boolean skip(String word) throws Fault {
        boolean here = peek().equals(word);
        at += here ? 1 : 0;
        return here;
    }

    private void line(State t) throws Fault {
        String word = peek();
        if (word.equals("family")) {
            need(t.families.size() < 10, 4);
            at++;
            t.families.add(familyTold(t));
        } else if (word.equals("oven")) {
            need(t.ovens.size() < 3, 4);
            at++;
            t.ovens.add(number(1, 60));
        } else if (word.equals("quarrel")) {
            at++;
            int f = number(0, t.families.size() - 1);
            need(!peek().matches("[0-9]+") || Integer.parseInt(peek()) != f, 3);
            int g = number(0, t.families.size() - 1);
            t.families.get(f).foes.put(t.families.get(g), true);
            t.families.get(g).foes.put(t.families.get(f), true);
        } else if (word.equals("keep")) {
            need(t.families.isEmpty(), 2);
            at++;
            t.keep = number(1, 5);
        } else {
            need(word.equals("fuel"), 2);
            at++;
            t.fuel = number(0, 999);
        }
    }

    private Family familyTold(State t) throws Fault {
        Family f = new Family();
        f.eats = number(0, 30);
        if (skip("flour")) {
            f.flour = number(0, 999);
        }
        if (skip("bread")) {
            f.bread.add(number(0, 99));
            while (peek().matches("[0-9]+")) {
                int place = at;
                int v = number(0, 99);
                int behind = at;
                at = place;
                need(f.bread.size() < t.keep, 4);
                at = behind;
                f.bread.add(v);
            }
        }
        if (skip("wish")) {
            f.wish = number(0, 99);
        }
        while (f.bread.size() < t.keep) {
            f.bread.add(0);
        }
        return f;
    }

    public int fault(int what) {
        return what == 0 ? faultKind : what == 1 ? faultPlace : -1;
    }

    private boolean is(int f) {
        return f >= 0 && f < s.families.size();
    }

    private boolean isOven(int o) {
        return o >= 0 && o < s.ovens.size();
    }

    private static int sum(List<Integer> list) {
        return list.stream().mapToInt(Integer::intValue).sum();
    }

    private int balance(Family f) {
        int b = 0;
        for (Family g : s.families) {
            b += g.debt(f) - f.debt(g);
        }
        return b;
    }

    public int family(int n, int what) {
        if (!is(n)) {
            return -2;
        }
        Family f = s.families.get(n);
        int[] all = {f.eats, f.flour, sum(f.bread), f.wish, f.fuel, f.hunger, f.stale, balance(f)};
        if (what >= 0 && what < all.length) {
            return all[what];
        }
        return what >= 10 && what < 10 + s.keep ? f.bread.get(what - 10) : -2;
    }

    public int oven(int o) {
        return isOven(o) ? s.ovens.get(o) : -2;
    }

    private boolean foes(int f, int g) {
        return s.families.get(f).foes.containsKey(s.families.get(g));
    }

    public int quarrel(int f, int g) {
        return is(f) && is(g) ? foes(f, g) ? 1 : 0 : -2;
    }

    public int fallOut(int f, int g) {
        if (!is(f) || !is(g) || f == g) {
            return -2;
        }
        boolean were = foes(f, g);
        Family a = s.families.get(f);
        Family b = s.families.get(g);
        if (were) {
            a.foes.remove(b);
            b.foes.remove(a);
            return 0;
        }
        a.foes.put(b, true);
        b.foes.put(a, true);
        return 1;
    }

    public int wish(int f, int n) {
        if (!is(f)) {
            return -2;
        }
        if (n < 0 || n > 99) {
            return -3;
        }
        int was = s.families.get(f).wish;
        s.families.get(f).wish = n;
        return was;
    }

    public int mill(int f, int n) {
        if (!is(f)) {
            return -2;
        }
        if (n < 0 || n > 999) {
            return -3;
        }
        return s.families.get(f).flour = Math.min(999, s.families.get(f).flour + n);
    }

    // ---- fires, days

    private int hindered(int o, long[] loaves) {
        long all = 0;
        boolean quarrel = false;
        for (int f = 0; f < loaves.length; f++) {
            if (loaves[f] < 0 || loaves[f] > s.families.get(f).flour) {
                return 1;
            }
            all += loaves[f];
            for (int g = 0; g < f; g++) {
                quarrel |= foes(f, g) && loaves[f] != 0 && loaves[g] != 0;
            }
        }
        return quarrel ? 2 : all != s.ovens.get(o) ? 3 : 0;
    }

    private int baked(int o, long[] loaves) {
        int why = hindered(o, loaves);
        if (why != 0) {
            return -10 - why;
        }
        int fuel = 0;
        for (int i = 0; i < loaves.length; i++) {
            Family f = s.families.get(i);
            int n = (int) loaves[i];
            f.flour -= n;
            f.bread.set(0, f.bread.get(0) + n);
            f.fuel += s.fuel * n / s.ovens.get(o);
            fuel += s.fuel * n / s.ovens.get(o);
        }
        return fuel;
    }

    public int fire(int o, int row) {
        if (!isOven(o) || row < 0 || row > 3) {
            return -2;
        }
        if (rows[row] == null) {
            return -6;
        }
        return rows[row].length == s.families.size() ? baked(o, rows[row]) : -7;
    }

    private boolean isSet(int set) {
        return set >= 0 && set >> s.families.size() == 0;
    }

    public int fireWishes(int o, int set) {
        if (!isOven(o)) {
            return -2;
        }
        if (!isSet(set)) {
            return -3;
        }
        long[] loaves = new long[s.families.size()];
        for (int f : members(set)) {
            loaves[f] = s.families.get(f).wish;
        }
        int fuel = baked(o, loaves);
        if (fuel >= 0) {
            for (int f : members(set)) {
                s.families.get(f).wish = 0;
            }
        }
        return fuel;
    }

    private static List<Integer> members(int set) {
        List<Integer> list = new ArrayList<>();
        for (int f = 0; f < 10; f++) {
            if ((set & 1 << f) != 0) {
                list.add(f);
            }
        }
        return list;
    }

    /** Fires made, why it stopped, loaves. */
    private int[] run(long[] fires) {
        int made = 0;
        int loaves = 0;
        for (long v : fires) {
            long o = Math.floorDiv(v, 1024L);
            int set = (int) Math.floorMod(v, 1024L);
            if (o < 0 || o >= s.ovens.size() || !isSet(set)) {
                return new int[] {made, 4, loaves};
            }
            int fuel = fireWishes((int) o, set);
            if (fuel < 0) {
                return new int[] {made, -10 - fuel, loaves};
            }
            made++;
            loaves += s.ovens.get((int) o);
        }
        return new int[] {made, 0, loaves};
    }

    public int judge(int row, int what) {
        if (row < 0 || row > 3 || what < 0 || what > 2) {
            return -2;
        }
        if (rows[row] == null) {
            return -6;
        }
        State before = s;
        s = s.copied();
        int[] verdict = run(rows[row]);
        s = before;
        return what == 0 && verdict[1] == 0 ? -1 : verdict[what];
    }

    public int perform(int row) {
        if (row < 0 || row > 3) {
            return -2;
        }
        return rows[row] == null ? -6 : run(rows[row])[0];
    }

    /** Loaf by loaf; answers hunger and stale. */
    private static int[] lived(List<Integer> bread, int eats) {
        int hunger = 0;
        for (int i = 0; i < eats; i++) {
            int age = bread.size() - 1;
            while (age >= 0 && bread.get(age) == 0) {
                age--;
            }
            if (age < 0) {
                hunger++;
            } else {
                bread.set(age, bread.get(age) - 1);
            }
        }
        bread.add(0, 0);
        return new int[] {hunger, bread.remove(bread.size() - 1)};
    }

    public int day() {
        if (s.day == 999) {
            return -5;
        }
        int all = 0;
        for (Family f : s.families) {
            int[] end = lived(f.bread, f.eats);
            f.hunger += end[0];
            f.stale += end[1];
            all += end[0];
        }
        s.day++;
        return all;
    }

    public int drawn(int seed, int days) {
        if (days < 1 || days > 30) {
            return -3;
        }
        if (s.families.isEmpty() || s.day + days > 999) {
            return -5;
        }
        int hunger = 0;
        int x = seed;
        for (int i = 0; i < days; i++) {
            x = 1103515245 * x + 12345;
            Family f = s.families.get((x >>> 16) % s.families.size());
            x = 1103515245 * x + 12345;
            int kind = (x >>> 16) % 3;
            if (kind == 1 && f.eats < 30) {
                f.eats++;
            } else if (kind == 2 && f.eats > 0) {
                f.eats--;
            }
            hunger += day();
        }
        return hunger;
    }

    public int lasts(int f) {
        if (!is(f)) {
            return -2;
        }
        List<Integer> bread = new ArrayList<>(s.families.get(f).bread);
        for (int days = 0; days < 100; days++) {
            if (lived(bread, s.families.get(f).eats)[0] > 0) {
                return days;
            }
        }
        return -1;
    }

    // ---- sums

    /** Every way to bake a sum: the fewest fires (-1: none), how many ways. */
    private int[] counted(int sum, int oven) {
        if (oven == s.ovens.size()) {
            return sum == 0 ? new int[] {0, 1} : new int[] {-1, 0};
        }
        int fewest = -1;
        int ways = 0;
        for (int n = 0; n * s.ovens.get(oven) <= sum; n++) {
            int[] rest = counted(sum - n * s.ovens.get(oven), oven + 1);
            ways += rest[1];
            if (rest[0] >= 0 && (fewest < 0 || rest[0] + n < fewest)) {
                fewest = rest[0] + n;
            }
        }
        return new int[] {fewest, ways};
    }

    public int canBake(int sum) {
        return sum < 0 || sum > 2000 ? -3 : bakes(sum + 1)[sum] ? 1 : 0;
    }

    private boolean[] bakes(int length) {
        boolean[] can = new boolean[length];
        can[0] = true;
        for (int sum = 1; sum < length; sum++) {
            for (int size : s.ovens) {
                can[sum] |= sum >= size && can[sum - size];
            }
        }
        return can;
    }

    public int fires(int sum) {
        return sum < 0 || sum > 2000 ? -3 : counted(sum, 0)[0];
    }

    public int ways(int sum) {
        return sum < 0 || sum > 2000 ? -3 : counted(sum, 0)[1];
    }

    public int gap() {
        boolean[] can = bakes(20000);
        int last = -1;
        for (int sum = 0; sum < can.length; sum++) {
            last = can[sum] ? last : sum;
        }
        return last > 15000 ? -4 : last;
    }

    public int upTo(int n) {
        if (n < 0 || n > 1900) {
            return -3;
        }
        boolean[] can = bakes(2000);
        for (int sum = n; sum < 2000; sum++) {
            if (can[sum]) {
                return sum;
            }
        }
        return -1;
    }

    // ---- groups

    private boolean isFree(int set) {
        for (int f : members(set)) {
            for (int g : members(set)) {
                if (foes(f, g)) {
                    return false;
                }
            }
        }
        return true;
    }

    private int wishesOf(int set) {
        return members(set).stream().mapToInt(f -> s.families.get(f).wish).sum();
    }

    private boolean isGroup(int set, int o) {
        return isSet(set) && members(set).stream().allMatch(f -> s.families.get(f).wish > 0) && isFree(set)
                && wishesOf(set) == s.ovens.get(o);
    }

    private List<Integer> groupsOf(int o) {
        List<Integer> list = new ArrayList<>();
        for (int set = 0; set < 1 << s.families.size(); set++) {
            if (isGroup(set, o)) {
                list.add(set);
            }
        }
        return list;
    }

    private List<Integer> allGroups() {
        TreeSet<Integer> all = new TreeSet<>();
        for (int o = 0; o < s.ovens.size(); o++) {
            all.addAll(groupsOf(o));
        }
        return new ArrayList<>(all);
    }

    private static int kth(List<Integer> list, int k) {
        return k == -1 ? list.size() : k >= 0 && k < list.size() ? list.get(k) : -1;
    }

    public int group(int o, int k) {
        return isOven(o) ? kth(groupsOf(o), k) : -2;
    }

    public int fills(int set) {
        if (!isSet(set)) {
            return -3;
        }
        int bits = 0;
        for (int o = 0; o < s.ovens.size(); o++) {
            bits |= isGroup(set, o) ? 1 << o : 0;
        }
        return bits;
    }

    /** Every choice of groups without a family in two of them: families, groups, set of the best. */
    private void choose(List<Integer> groups, int from, int set, int n, int[] best) {
        int more = Integer.bitCount(set) - best[0];
        if (more > 0 || more == 0 && (n < best[1] || n == best[1] && set < best[2])) {
            best[0] = Integer.bitCount(set);
            best[1] = n;
            best[2] = set;
        }
        for (int i = from; i < groups.size(); i++) {
            if ((groups.get(i) & set) == 0) {
                choose(groups, i + 1, set | groups.get(i), n + 1, best);
            }
        }
    }

    private int[] bestServed() {
        int[] best = new int[3];
        choose(allGroups(), 0, 0, 0, best);
        return best;
    }

    public int served(int what) {
        return what < 0 || what > 2 ? -2 : bestServed()[what];
    }

    private int wishers() {
        int set = 0;
        for (int f = 0; f < s.families.size(); f++) {
            set |= s.families.get(f).wish > 0 ? 1 << f : 0;
        }
        return set;
    }

    private void part(List<Integer> groups, int from, int left, List<Integer> chosen, List<List<Integer>> all) {
        if (left == 0) {
            all.add(new ArrayList<>(chosen));
        }
        for (int i = from; i < groups.size(); i++) {
            if ((groups.get(i) & ~left) == 0) {
                chosen.add(groups.get(i));
                part(groups, i + 1, left & ~groups.get(i), chosen, all);
                chosen.remove(chosen.size() - 1);
            }
        }
    }

    private List<List<Integer>> partings() {
        List<List<Integer>> all = new ArrayList<>();
        part(allGroups(), 0, wishers(), new ArrayList<>(), all);
        return all;
    }

    public int parted() {
        return Integer.bitCount(wishers()) > 8 ? -4 : partings().size();
    }

    public int together(int f) {
        if (!is(f)) {
            return -2;
        }
        if (Integer.bitCount(wishers()) > 8) {
            return -4;
        }
        List<List<Integer>> all = partings();
        int with = all.isEmpty() || s.families.get(f).wish == 0 ? 0 : 1023;
        for (List<Integer> parting : all) {
            for (int set : parting) {
                with &= (set & 1 << f) != 0 ? set : 1023;
            }
        }
        return with & ~(1 << f);
    }

    /** The fewest fires when the families from f on are put into fires that are begun, or new ones. */
    private int packed(int f, List<Integer> begun, int size, int limit) {
        if (begun.size() >= limit) {
            return limit;
        }
        if (f == s.families.size()) {
            return begun.size();
        }
        if (s.families.get(f).wish == 0) {
            return packed(f + 1, begun, size, limit);
        }
        int best = limit;
        for (int i = 0; i <= begun.size(); i++) {
            List<Integer> next = new ArrayList<>(begun);
            if (i == begun.size()) {
                next.add(0);
            }
            next.set(i, next.get(i) | 1 << f);
            if (isFree(next.get(i)) && wishesOf(next.get(i)) <= size) {
                best = Math.min(best, packed(f + 1, next, size, best));
            }
        }
        return best;
    }

    public int stones(int o, int what) {
        if (!isOven(o) || what < 0 || what > 1) {
            return -2;
        }
        int size = s.ovens.get(o);
        if (s.families.stream().anyMatch(f -> f.wish > size)) {
            return -1;
        }
        int fires = packed(0, new ArrayList<>(), size, 11);
        return what == 0 ? fires : fires * size - wishesOf(wishers());
    }

    private int pays(int f, int o) {
        return s.fuel * s.families.get(f).wish / s.ovens.get(o);
    }

    private boolean wouldLeave(int f, int o, int set) {
        for (int p = 0; p < s.ovens.size(); p++) {
            for (int other : groupsOf(p)) {
                boolean all = (other & 1 << f) != 0 && (other != set || p != o);
                for (int m : members(other)) {
                    int now = (set & 1 << m) != 0 ? pays(m, o) : s.fuel;
                    all &= pays(m, p) < now;
                }
                if (all) {
                    return true;
                }
            }
        }
        return false;
    }

    public int leaves(int o, int set) {
        if (!isOven(o)) {
            return -2;
        }
        if (!isGroup(set, o)) {
            return -5;
        }
        int bits = 0;
        for (int f : members(set)) {
            bits |= wouldLeave(f, o, set) ? 1 << f : 0;
        }
        return bits;
    }

    public int stable(int o, int k) {
        if (!isOven(o)) {
            return -2;
        }
        List<Integer> list = new ArrayList<>(groupsOf(o));
        list.removeIf(set -> leaves(o, set) != 0);
        return kth(list, k);
    }

    public int better(int what) {
        if (what < 0 || what > 2) {
            return -2;
        }
        int[] best = {-1, -1, bestServed()[0]};
        for (int i = 0; i < s.families.size(); i++) {
            Family f = s.families.get(i);
            int was = f.wish;
            for (int w = 1; w <= 99; w++) {
                f.wish = w;
                int n = bestServed()[0];
                if (n > best[2] && w != was) {
                    best = new int[] {i, w, n};
                }
            }
            f.wish = was;
        }
        return best[what];
    }

    // ---- lending

    public int lend(int from, int to, int n) {
        if (!is(from) || !is(to) || from == to) {
            return -2;
        }
        Family giver = s.families.get(from);
        Family getter = s.families.get(to);
        if (n < 1 || n > giver.flour) {
            return -3;
        }
        if (getter.flour + n > 999) {
            return -4;
        }
        for (int i = 0; i < n; i++) {
            giver.flour--;
            getter.flour++;
            if (giver.debt(getter) > 0) {
                giver.owes.merge(getter, -1, Integer::sum);
            } else {
                getter.owes.merge(giver, 1, Integer::sum);
            }
        }
        return getter.debt(giver);
    }

    public int owed(int from, int to) {
        return is(from) && is(to) ? s.families.get(from).debt(s.families.get(to)) : -2;
    }

    /** All rings that begin with the first of a chain; the best is kept. */
    private void rings(List<Integer> chain, List<List<Integer>> best) {
        int last = chain.get(chain.size() - 1);
        if (owed(last, chain.get(0)) > 0 && (best.isEmpty() || chain.size() < best.get(0).size())) {
            best.clear();
            best.add(new ArrayList<>(chain));
        }
        for (int f = 0; f < s.families.size(); f++) {
            if (owed(last, f) > 0 && !chain.contains(f)) {
                chain.add(f);
                rings(chain, best);
                chain.remove(chain.size() - 1);
            }
        }
    }

    private List<Integer> theRing() {
        for (int a = 0; a < s.families.size(); a++) {
            List<List<Integer>> best = new ArrayList<>();
            rings(new ArrayList<>(List.of(a)), best);
            if (!best.isEmpty()) {
                return best.get(0);
            }
        }
        return List.of();
    }

    public int ring(int k) {
        List<Integer> ring = theRing();
        return ring.isEmpty() ? -1 : kth(ring, k);
    }

    public int clear() {
        for (int n = 0;; n++) {
            List<Integer> ring = theRing();
            if (ring.isEmpty()) {
                return n;
            }
            int least = Integer.MAX_VALUE;
            for (int i = 0; i < ring.size(); i++) {
                least = Math.min(least, owed(ring.get(i), ring.get((i + 1) % ring.size())));
            }
            for (int i = 0; i < ring.size(); i++) {
                Family to = s.families.get(ring.get((i + 1) % ring.size()));
                s.families.get(ring.get(i)).owes.merge(to, -least, Integer::sum);
            }
        }
    }

    /** The first balance that isn't nought is settled with each later one of the other sign. */
    private static int settled(int[] balances, int from) {
        int i = from;
        while (i < balances.length && balances[i] == 0) {
            i++;
        }
        if (i == balances.length) {
            return 0;
        }
        int best = Integer.MAX_VALUE;
        for (int j = i + 1; j < balances.length; j++) {
            if (balances[i] < 0 != balances[j] < 0 && balances[j] != 0) {
                int[] next = Arrays.copyOf(balances, balances.length);
                next[j] += balances[i];
                best = Math.min(best, 1 + settled(next, i + 1));
            }
        }
        return best;
    }

    public int payments() {
        return settled(s.families.stream().mapToInt(this::balance).toArray(), 0);
    }

    // ---- ahead, marriages

    /** Hunger, stale, fires and the row of each row of fires, the first ones first. */
    private List<int[]> outlooks(int n) {
        List<int[]> all = new ArrayList<>();
        int eats = s.families.stream().mapToInt(f -> f.eats).sum();
        for (int code = 0; code < Math.round(Math.pow(3, n)); code++) {
            int[] result = new int[10 + n];
            for (int k = n - 1, c = code; k >= 0; k--, c /= 3) {
                result[10 + k] = c % 3;
            }
            List<Integer> bread = new ArrayList<>();
            for (int age = 0; age < s.keep; age++) {
                int a = age;
                bread.add(s.families.stream().mapToInt(f -> f.bread.get(a)).sum());
            }
            for (int k = 0; k < n; k++) {
                bread.set(0, bread.get(0) + result[10 + k] * s.ovens.get(0));
                int[] end = lived(bread, eats);
                result[0] += end[0];
                result[1] += end[1];
                result[2] += result[10 + k];
            }
            all.add(result);
        }
        return all;
    }

    public int ahead(int n, int what) {
        if (what < 0 || what > 2 && what < 10 || what > 16) {
            return -2;
        }
        if (n < 1 || n > 7) {
            return -3;
        }
        if (s.ovens.isEmpty()) {
            return -5;
        }
        if (what >= 10 + n) {
            return -1;
        }
        int[] best = null;
        for (int[] row : outlooks(n)) {
            if (best == null || row[0] < best[0] || row[0] == best[0] && (row[1] < best[1]
                    || row[1] == best[1] && row[2] < best[2])) {
                best = row;
            }
        }
        return best[what];
    }

    public int enough(int n) {
        if (n < 1 || n > 7) {
            return -3;
        }
        if (s.ovens.isEmpty()) {
            return -5;
        }
        return outlooks(n).stream().filter(row -> row[0] == 0).mapToInt(row -> row[2]).min().orElse(-1);
    }

    public int marry(int f, int g) {
        if (!is(f) || !is(g) || f == g) {
            return -2;
        }
        if (foes(f, g)) {
            return -5;
        }
        Family a = s.families.get(Math.min(f, g));
        Family b = s.families.get(Math.max(f, g));
        a.eats = Math.min(30, a.eats + b.eats);
        a.flour = Math.min(999, a.flour + b.flour);
        a.wish = Math.min(99, a.wish + b.wish);
        a.fuel += b.fuel;
        a.hunger += b.hunger;
        a.stale += b.stale;
        for (int age = 0; age < s.keep; age++) {
            a.bread.set(age, Math.min(99, a.bread.get(age) + b.bread.get(age)));
        }
        s.families.remove(b);
        for (Family other : s.families) {
            if (other != a) {
                a.owes.merge(other, b.debt(other), Integer::sum);
                other.owes.merge(a, other.debt(b), Integer::sum);
                if (b.foes.containsKey(other)) {
                    a.foes.put(other, true);
                    other.foes.put(a, true);
                }
            }
            other.owes.remove(b);
            other.foes.remove(b);
        }
        return s.families.size();
    }

    // ---- rows of numbers, images

    public int numbers(int row, int sort, int n) {
        if (row < 0 || row > 3 || sort < 0 || sort > 3) {
            return -2;
        }
        if (n < 0 || n > 40) {
            return -3;
        }
        rows[row] = new long[n];
        sorts[row] = sort;
        return 0;
    }

    public long write(int row, int i, long v) {
        if (row < 0 || row > 3) {
            return -2;
        }
        if (rows[row] == null) {
            return -6;
        }
        if (i < 0 || i >= rows[row].length) {
            return -7;
        }
        int spare = 64 - (8 << sorts[row]);
        return rows[row][i] = v << spare >> spare;
    }

    public int copy(int row) {
        if (row < 0 || row > 3) {
            return -2;
        }
        if (rows[row] == null) {
            return -6;
        }
        if (rows[row].length < s.families.size()) {
            return -7;
        }
        for (int f = 0; f < s.families.size(); f++) {
            rows[row][f] = s.families.get(f).wish;
        }
        return s.families.size();
    }

    public int image(int i) {
        if (i < 0 || i > 1) {
            return -2;
        }
        images[i] = s.copied();
        return 0;
    }

    public int restore(int i) {
        if (i < 0 || i > 1) {
            return -2;
        }
        if (images[i] == null) {
            return -5;
        }
        s = images[i].copied();
        return 0;
    }

    public int count(int what) {
        int[] all = new int[14];
        all[0] = s.families.size();
        all[1] = s.ovens.size();
        all[2] = s.day;
        all[3] = s.keep;
        all[4] = s.fuel;
        all[11] = tape.length();
        all[12] = s.lines;
        for (Family f : s.families) {
            all[5] += f.flour;
            all[6] += sum(f.bread);
            all[7] += f.wish;
            all[8] += f.hunger;
            all[9] += f.stale;
            all[10] += f.eats;
            for (Family g : s.families) {
                all[13] += f.debt(g);
            }
        }
        return what < 0 || what > 13 ? -1 : all[what];
    }
}
