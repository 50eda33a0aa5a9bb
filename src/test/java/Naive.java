import java.math.BigInteger;
import java.util.ArrayList;
import java.util.Arrays;
import java.util.HashMap;
import java.util.List;
import java.util.regex.Matcher;
import java.util.regex.Pattern;

/**
 * The document once more, written as plainly as can be and in another way (sets of single STOCKS, one
 * MIXTURE after the other), so that the two can be held against each other.
 */
public final class Naive {
    private static final int NONE = -6, UNKNOWN = -1, OUTSIDE = -2, STATE = -3, FULL = -4, NO = -5;
    private static final int MIXTURES = 15625;
    private static final int[] POWERS = {3125, 625, 125, 25, 5, 1};
    private static final Pattern RULE = Pattern.compile(
            "[pq][abc](\\+[pq][abc])*[<>=][0-9]{1,2}([&|][pq][abc](\\+[pq][abc])*[<>=][0-9]{1,2})*");
    private static final Pattern TEST = Pattern.compile("([^<>=]*)([<>=])([0-9]*)");

    /** All that an image keeps. */
    private static final class State {
        List<int[]> months = new ArrayList<>();
        int[][] stocks = {{0, 0, 199, 0}, {0, 0, 199, 0}, {0, 0, 199, 0}};
        int one = -1, other = -1;
        String rule = null;

        State copy() {
            State copy = new State();
            for (int[] m : months) copy.months.add(m.clone());
            for (int t = 0; t < 3; t++) copy.stocks[t] = stocks[t].clone();
            copy.one = one;
            copy.other = other;
            copy.rule = rule;
            return copy;
        }
    }

    /** One way to look at the INs: the book's, or one that is put in its place. */
    private interface Ins {
        int least(int month, int thing);
        int most(int month, int thing);
    }

    private State s = new State();
    private final State[] images = new State[2];
    private String text = "";
    private boolean[] kept;
    private int[] fitting;

    private final Ins plainIns = new Ins() {
        public int least(int m, int t) { return Math.max(0, s.months.get(m)[t] - s.months.get(m)[3]); }
        public int most(int m, int t) { return s.months.get(m)[t] + s.months.get(m)[3]; }
    };

    private void stale() { kept = null; fitting = null; }

    private static boolean in(int v, int most) { return v >= 0 && v <= most; }
    private boolean isMonth(int m) { return in(m, s.months.size() - 1); }
    private static boolean isThing(int t) { return in(t, 2); }
    private static boolean isWare(int w) { return in(w, 1); }
    private static boolean isMixture(int m) { return in(m, MIXTURES - 1); }
    private static int amount(int mixture, int ware, int thing) { return mixture / POWERS[3 * ware + thing] % 5; }

    public int month(int a, int b, int c, int give, int p, int q) {
        if (!in(a, 99) || !in(b, 99) || !in(c, 99) || !in(give, 5) || !in(p, 20) || !in(q, 20)) return OUTSIDE;
        if (s.months.size() == 8) return FULL;
        stale();
        s.months.add(new int[] {a, b, c, give, p, q, 0, 0, 0});
        return s.months.size() - 1;
    }

    public int change(int month, int what, int v) {
        if (!isMonth(month)) return UNKNOWN;
        if (!in(what, 8)) return OUTSIDE;
        int most = what == 3 ? 5 : what == 4 || what == 5 ? 20 : 99;
        if (!in(v, most)) return OUTSIDE;
        stale();
        int was = s.months.get(month)[what];
        s.months.get(month)[what] = v;
        return was;
    }

    public int about(int month, int what) {
        if (!isMonth(month)) return UNKNOWN;
        return in(what, 8) ? s.months.get(month)[what] : OUTSIDE;
    }

    public int tear() {
        if (s.months.isEmpty()) return NO;
        stale();
        s.months.remove(s.months.size() - 1);
        return s.months.size();
    }

    public int stock(int thing, int what, int v) {
        if (!isThing(thing)) return UNKNOWN;
        if (!in(what, 3)) return OUTSIDE;
        if (!in(v, what < 2 ? 99 : what == 2 ? 199 : 5)) return OUTSIDE;
        int[] next = s.stocks[thing].clone();
        next[what] = v;
        if (next[0] > next[1]) return OUTSIDE;
        stale();
        int was = s.stocks[thing][what];
        s.stocks[thing] = next;
        return was;
    }

    public int stand(int thing, int other) {
        int was = told(3);
        if (!(thing == -1 && other == -1)) {
            if (!isThing(thing) || !isThing(other) || thing == other) return UNKNOWN;
        }
        stale();
        s.one = thing;
        s.other = other;
        return was;
    }

    public int say(int sign) {
        if (sign < 33 || sign > 126) return OUTSIDE;
        if (text.length() == 50) return FULL;
        text += (char) sign;
        return text.length();
    }

    public int wipe() {
        int were = text.length();
        text = "";
        return were;
    }

    public int fault() {
        for (int i = 1; i <= text.length(); i++) {
            Matcher m = RULE.matcher(text.substring(0, i));
            if (!m.matches() && !m.hitEnd()) return i - 1;
        }
        return RULE.matcher(text).matches() ? NONE : text.length();
    }

    private int boths() { return s.rule == null ? 0 : s.rule.split("\\|").length; }

    public int rule() {
        if (fault() != NONE) return NO;
        stale();
        s.rule = text;
        text = "";
        return boths();
    }

    public int free() {
        int were = boths();
        stale();
        s.rule = null;
        return were;
    }

    private boolean keeps(int mixture) {
        if (s.rule == null) return true;
        for (String both : s.rule.split("\\|")) {
            boolean so = true;
            for (String test : both.split("&")) so &= passes(mixture, test);
            if (so) return true;
        }
        return false;
    }

    private static boolean passes(int mixture, String test) {
        Matcher m = TEST.matcher(test);
        if (!m.matches()) throw new IllegalStateException(test);
        int sum = 0;
        for (String term : m.group(1).split("\\+")) sum += amount(mixture, term.charAt(0) - 'p', term.charAt(1) - 'a');
        int number = Integer.parseInt(m.group(3));
        return m.group(2).equals("<") ? sum < number : m.group(2).equals(">") ? sum > number : sum == number;
    }

    private boolean stands(int month) {
        return s.one >= 0 && s.months.get(month)[6 + s.one] < s.months.get(month)[6 + s.other];
    }

    private int need(int mixture, int month, int thing) {
        int[] m = s.months.get(month);
        int sum = 0;
        for (int t = 0; t < 3; t++) {
            int by = t == s.other && stands(month) ? s.one : t;
            if (by == thing) sum += m[4] * amount(mixture, 0, t) + m[5] * amount(mixture, 1, t);
        }
        return sum;
    }

    /** The STOCKS ahead of MONTH 0, a bit each. */
    private BigInteger begin(int thing) {
        BigInteger set = BigInteger.ZERO;
        for (int v = s.stocks[thing][0]; v <= s.stocks[thing][1]; v++) set = set.setBit(v);
        return set;
    }

    private BigInteger step(BigInteger set, int thing, int month, int need, Ins ins) {
        BigInteger got = BigInteger.ZERO;
        for (int v = ins.least(month, thing); v <= ins.most(month, thing); v++) got = got.or(set.shiftLeft(v));
        BigInteger left = BigInteger.ZERO;
        for (int gone = 0; gone <= s.stocks[thing][3]; gone++) left = left.or(got.shiftRight(need + gone));
        return left.and(BigInteger.ONE.shiftLeft(s.stocks[thing][2] + 1).subtract(BigInteger.ONE));
    }

    /** How many MONTHS it can go on with a THING. */
    private int goes(int first, int second, int from, int thing, Ins ins) {
        BigInteger set = begin(thing);
        for (int m = 0; m < s.months.size(); m++) {
            set = step(set, thing, m, need(m < from ? first : second, m, thing), ins);
            if (set.signum() == 0) return m;
        }
        return s.months.size();
    }

    /** By THING and by the digits on which its NEEDS may hang: 1 AGREES, 2 does not, 0 not known yet. */
    private byte[][] memo() { return new byte[3][MIXTURES]; }

    private int essence(int mixture, int thing) {
        int left = 0;
        for (int t = 0; t < 3; t++) {
            if (t == thing || t == s.other && thing == s.one) {
                left += amount(mixture, 0, t) * POWERS[t] + amount(mixture, 1, t) * POWERS[3 + t];
            }
        }
        return left;
    }

    private boolean agrees(int mixture, int thing, Ins ins, byte[][] memo) {
        int e = essence(mixture, thing);
        if (memo[thing][e] == 0) memo[thing][e] = (byte) (goes(e, e, 0, thing, ins) == s.months.size() ? 1 : 2);
        return memo[thing][e] == 1;
    }

    private boolean[] kept() {
        if (kept == null) {
            kept = new boolean[MIXTURES];
            for (int m = 0; m < MIXTURES; m++) kept[m] = keeps(m);
        }
        return kept;
    }

    private int[] fitting(Ins ins, byte[][] memo, boolean firstOnly) {
        int[] found = new int[MIXTURES];
        int n = 0;
        for (int m = 0; m < MIXTURES && !(firstOnly && n == 1); m++) {
            if (kept()[m] && agrees(m, 0, ins, memo) && agrees(m, 1, ins, memo) && agrees(m, 2, ins, memo)) found[n++] = m;
        }
        return Arrays.copyOf(found, n);
    }

    private int[] fitting() {
        if (fitting == null) fitting = fitting(plainIns, memo(), false);
        return fitting;
    }

    public int fits(int mixture, int how) {
        if (!isMixture(mixture)) return UNKNOWN;
        if (!in(how, 2)) return OUTSIDE;
        boolean agrees = judge(mixture, 0) == NONE;
        boolean so = how == 0 ? keeps(mixture) : how == 1 ? agrees : keeps(mixture) && agrees;
        return so ? 1 : 0;
    }

    public int needs(int mixture, int month, int thing) {
        return isMixture(mixture) && isMonth(month) && isThing(thing) ? need(mixture, month, thing) : UNKNOWN;
    }

    public int judge(int mixture, int what) {
        if (!isMixture(mixture)) return UNKNOWN;
        if (!in(what, 1)) return OUTSIDE;
        for (int m = 0; m < s.months.size(); m++) {
            for (int t = 0; t < 3; t++) {
                if (goes(mixture, mixture, 0, t, plainIns) <= m) return what == 0 ? m : t;
            }
        }
        return NONE;
    }

    public int lies(int mixture, int thing, int month, int end) {
        if (!isMixture(mixture) || !isThing(thing) || !isMonth(month)) return UNKNOWN;
        if (!in(end, 1)) return OUTSIDE;
        BigInteger set = begin(thing);
        for (int m = 0; m <= month; m++) set = step(set, thing, m, need(mixture, m, thing), plainIns);
        if (set.signum() == 0) return NO;
        return end == 0 ? set.getLowestSetBit() : set.bitLength() - 1;
    }

    public int all(int i) {
        if (i == -1) return fitting().length;
        return in(i, fitting().length - 1) ? fitting()[i] : NONE;
    }

    private static int end(int[] values, int end) {
        return end == 0 ? Arrays.stream(values).min().getAsInt() : Arrays.stream(values).max().getAsInt();
    }

    public int ends(int ware, int thing, int end) {
        if (!isWare(ware) || !isThing(thing)) return UNKNOWN;
        if (!in(end, 1)) return OUTSIDE;
        if (fitting().length == 0) return NO;
        return end(Arrays.stream(fitting()).map(m -> amount(m, ware, thing)).toArray(), end);
    }

    public int must(int what) {
        if (!in(what, 1)) return OUTSIDE;
        if (fitting().length == 0) return NO;
        int must = 63, never = 63;
        for (int m : fitting()) {
            for (int i = 0; i < 6; i++) {
                if (amount(m, i / 3, i % 3) == 0) must &= ~(1 << i);
                else never &= ~(1 << i);
            }
        }
        return what == 0 ? must : never;
    }

    public int plain(int what) {
        if (!in(what, 1)) return OUTSIDE;
        if (fitting().length == 0) return NO;
        int best = -1, fewest = 7;
        for (int m : fitting()) {
            int few = 0;
            for (int i = 0; i < 6; i++) few += amount(m, i / 3, i % 3) > 0 ? 1 : 0;
            if (few < fewest) {
                fewest = few;
                best = m;
            }
        }
        return what == 0 ? best : fewest;
    }

    public int near(int what) {
        if (!in(what, 1)) return OUTSIDE;
        for (int more = 0; more <= 99; more++) {
            final int by = more;
            int[] found = fitting(new Ins() {
                public int least(int m, int t) { return Math.max(0, s.months.get(m)[t] - s.months.get(m)[3] - by); }
                public int most(int m, int t) { return plainIns.most(m, t) + by; }
            }, memo(), true);
            if (found.length > 0) return what == 0 ? more : found[0];
        }
        return NO;
    }

    public int doubt(int what) {
        if (!in(what, 1)) return OUTSIDE;
        for (int many = 0; many <= 2; many++) {
            for (int bits = 0; bits < 1 << s.months.size(); bits++) {
                if (Integer.bitCount(bits) != many) continue;
                final int doubted = bits;
                int[] found = fitting(new Ins() {
                    public int least(int m, int t) { return (doubted >> m & 1) != 0 ? 0 : plainIns.least(m, t); }
                    public int most(int m, int t) { return (doubted >> m & 1) != 0 ? 700 : plainIns.most(m, t); }
                }, memo(), true);
                if (found.length > 0) return what == 0 ? bits : found[0];
            }
        }
        return NO;
    }

    public int changed(int what) {
        if (!in(what, 3)) return OUTSIDE;
        if (fitting().length > 0) return STATE;
        for (int month = 1; month < s.months.size(); month++) {
            HashMap<Long, Boolean> memo = new HashMap<>();
            for (int thing = 0; thing < 3; thing++) {
                for (int first = 0; first < MIXTURES; first++) {
                    if (!kept()[first] || !restAgrees(first, thing, month, memo)) continue;
                    for (int pair = 0; pair < 25; pair++) {
                        int second = withPair(first, thing, pair);
                        if (second != first && kept()[second] && goBoth(first, second, month, memo)) {
                            return what == 0 ? month : what == 1 ? thing : what == 2 ? first : second;
                        }
                    }
                }
            }
        }
        return NO;
    }

    private static int withPair(int mixture, int thing, int pair) {
        int p = amount(mixture, 0, thing), q = amount(mixture, 1, thing);
        return mixture + (pair / 5 - p) * POWERS[thing] + (pair % 5 - q) * POWERS[3 + thing];
    }

    private boolean restAgrees(int first, int thing, int month, HashMap<Long, Boolean> memo) {
        for (int t = 0; t < 3; t++) {
            boolean touched = t == thing || t == s.one && s.other == thing;
            if (!touched && !goesBoth(first, first, month, t, memo)) return false;
        }
        return true;
    }

    private boolean goBoth(int first, int second, int month, HashMap<Long, Boolean> memo) {
        for (int t = 0; t < 3; t++) if (!goesBoth(first, second, month, t, memo)) return false;
        return true;
    }

    private boolean goesBoth(int first, int second, int month, int thing, HashMap<Long, Boolean> memo) {
        int a = essence(first, thing), b = essence(second, thing);
        return memo.computeIfAbsent(((long) thing * MIXTURES + a) * MIXTURES + b,
                k -> goes(a, b, month, thing, plainIns) == s.months.size());
    }

    public int cost(int mixture, int ware, int month) {
        if (!isMixture(mixture) || !isWare(ware) || !isMonth(month)) return UNKNOWN;
        int sum = 0;
        for (int t = 0; t < 3; t++) sum += s.months.get(month)[6 + t] * amount(mixture, ware, t);
        return sum;
    }

    public int costs(int ware, int month, int end) {
        if (!isWare(ware) || !isMonth(month)) return UNKNOWN;
        if (!in(end, 1)) return OUTSIDE;
        if (fitting().length == 0) return NO;
        return end(Arrays.stream(fitting()).map(m -> cost(m, ware, month)).toArray(), end);
    }

    public int buy(int thing, int p, int q, int end) {
        if (!isThing(thing)) return UNKNOWN;
        if (!in(p, 20) || !in(q, 20) || !in(end, 1)) return OUTSIDE;
        if (fitting().length == 0) return NO;
        return end(Arrays.stream(fitting()).map(m -> p * amount(m, 0, thing) + q * amount(m, 1, thing)).toArray(), end);
    }

    /** How many FIT with another span of one IN; what the other THINGS say is known already. */
    private int count(int month, int thing, int least, int most, byte[][] base) {
        Ins ins = new Ins() {
            public int least(int m, int t) { return m == month && t == thing ? least : plainIns.least(m, t); }
            public int most(int m, int t) { return m == month && t == thing ? most : plainIns.most(m, t); }
        };
        byte[][] memo = {base[0], base[1], base[2]};
        memo[thing] = new byte[MIXTURES];
        int n = 0;
        for (int m = 0; m < MIXTURES; m++) {
            if (!kept()[m]) continue;
            boolean so = true;
            for (int t = 0; t < 3 && so; t++) so = agrees(m, t, t == thing ? ins : plainIns, memo);
            n += so ? 1 : 0;
        }
        return n;
    }

    public int settle(int what) {
        if (!in(what, 2)) return OUTSIDE;
        if (s.months.isEmpty()) return STATE;
        if (fitting().length == 0) return NO;
        int month = -1, thing = -1, fewest = Integer.MAX_VALUE;
        byte[][] base = memo();
        for (int m = 0; m < s.months.size(); m++) {
            for (int t = 0; t < 3; t++) {
                int most = 0;
                for (int v = plainIns.least(m, t); v <= plainIns.most(m, t); v++) {
                    most = Math.max(most, count(m, t, v, v, base));
                }
                if (most < fewest) {
                    fewest = most;
                    month = m;
                    thing = t;
                }
            }
        }
        return what == 0 ? month : what == 1 ? thing : fewest;
    }

    public int hide(int purse, int what) {
        if (!in(purse, 999) || !in(what, 3)) return OUTSIDE;
        if (s.months.isEmpty()) return STATE;
        int[] best = null;
        int paid = 0;
        byte[][] base = memo();
        for (int m = 0; m < s.months.size(); m++) {
            for (int t = 0; t < 3; t++) {
                for (int more = 1; more <= 9; more++) {
                    int price = more * s.months.get(m)[6 + t];
                    if (price > purse) continue;
                    int in = s.months.get(m)[t] + more, give = s.months.get(m)[3];
                    int n = count(m, t, Math.max(0, in - give), in + give, base);
                    if (best == null || n > best[3] || n == best[3] && price < paid) {
                        best = new int[] {m, t, more, n};
                        paid = price;
                    }
                }
            }
        }
        return best == null ? NO : best[what];
    }

    public int image(int n) {
        if (!in(n, 1)) return OUTSIDE;
        images[n] = s.copy();
        return 1;
    }

    public int restore(int n) {
        if (!in(n, 1)) return OUTSIDE;
        if (images[n] == null) return STATE;
        s = images[n].copy();
        stale();
        return 1;
    }

    public int told(int what) {
        if (what >= 10 && what <= 21) return s.stocks[(what - 10) / 4][(what - 10) % 4];
        switch (what) {
            case 0: return s.months.size();
            case 1: return text.length();
            case 2: return boths();
            case 3: return s.one < 0 ? NONE : 10 * s.one + s.other;
            default: return OUTSIDE;
        }
    }
}
