import java.math.BigInteger;
import java.util.ArrayList;
import java.util.Arrays;
import java.util.Collections;
import java.util.List;
import java.util.TreeSet;

/** Keeps what was told, and works out each answer anew from the document's words, without regard to speed. */
final class Model implements Bench {
    private static final long VALUE_BOUND = 1000000000000L, SHARE_BOUND = 1000000000000000L;

    static final class Made {
        int kind;
        boolean held;
        long[] told;
        List<int[]> lines = new ArrayList<>();
        List<int[]> spots = new ArrayList<>();
        int[][] rows = new int[10][4];
        List<Integer> rises = new ArrayList<>();
        List<int[]> summed = new ArrayList<>();
        int[] prices = new int[10];
        int of, set;
        // What was worked out already, each with the number of changes that there had been by then.
        long[] known;
        int[] knownAt;
    }

    int things;
    private int code, bottom = 1, changes = 1;
    final List<Made> worths = new ArrayList<>();
    private final List<Integer> order = new ArrayList<>();
    private long[] shares = new long[10];
    private final long[][] sheets = new long[4][];
    final int[] forms = new int[4];

    private boolean noThing(int t) { return t < 0 || t >= things; }
    private boolean noSet(int s) { return s < 0 || s >= sets(); }
    private boolean noWorth(int w) { return w < 0 || w >= worths.size(); }
    private boolean noSheet(int s) { return s < 0 || s > 3; }
    private static boolean out(long v, long low, long high) { return v < low || v > high; }
    private static boolean has(int set, int t) { return (set & (1 << t)) != 0; }
    private int met(int c) { code = c; return 0; }
    int sets() { return 1 << things; }

    private void fine() {
        code = 0;
        changes++;
    }

    // ---- values

    private long val(int w, int set) {
        Made m = worths.get(w);
        if (m.knownAt[set] != changes) {
            m.known[set] = valueOf(m, set);
            m.knownAt[set] = changes;
        }
        return m.known[set];
    }

    private long valueOf(Made m, int set) {
        switch (m.kind) {
            case 0: return m.told[set];
            case 1: return cutLines(m, set);
            case 2: return coveredSpots(m, set);
            case 3: return rank(m, set);
            case 4: return firstRises(m, Integer.bitCount(set));
            case 5: return summed(m, set);
            case 6: return val(m.of, set & m.set);
            default: return val(m.of, set | m.set) - val(m.of, m.set);
        }
    }

    private static long cutLines(Made m, int set) {
        long sum = 0;
        for (int[] line : m.lines) if (has(set, line[0]) && !has(set, line[1])) sum += line[2];
        return sum;
    }

    private long coveredSpots(Made m, int set) {
        long sum = 0;
        for (int[] spot : m.spots) if (covers(set, spot[1])) sum += spot[0];
        return sum;
    }

    private boolean covers(int set, int spot) {
        for (int t = 0; t < things; t++) if (has(set, t) && has(spot, t)) return true;
        return false;
    }

    private static long firstRises(Made m, int count) {
        long sum = 0;
        for (int i = 0; i < count; i++) {
            if (!m.rises.isEmpty()) sum += m.rises.get(Math.min(i, m.rises.size() - 1));
        }
        return sum;
    }

    private long summed(Made m, int set) {
        long sum = 0;
        for (int[] s : m.summed) sum += s[1] * val(s[0], set);
        for (int t = 0; t < things; t++) if (has(set, t)) sum += m.prices[t];
        return sum;
    }

    /** The size of the largest square part whose determinant is not 0. */
    private int rank(Made m, int set) {
        for (int size = 4; size > 0; size--) {
            for (int few = 0; few < sets(); few++) {
                if ((few & ~set) != 0 || Integer.bitCount(few) != size) continue;
                for (int columns = 0; columns < 16; columns++) {
                    if (Integer.bitCount(columns) == size && determinant(m.rows, few, columns) != 0) return size;
                }
            }
        }
        return 0;
    }

    /** At most 24 products of four numbers up to 99, so that a long holds it. */
    private static long determinant(int[][] rows, int few, int columns) {
        if (few == 0) return 1;
        int row = Integer.numberOfTrailingZeros(few);
        long sum = 0;
        int sign = 1;
        for (int c = 0; c < 4; c++) {
            if (!has(columns, c)) continue;
            sum += sign * rows[row][c] * determinant(rows, few & (few - 1), columns & ~(1 << c));
            sign = -sign;
        }
        return sum;
    }

    private boolean isLarge(Made m) {
        for (int set = 0; set < sets(); set++) if (Math.abs(valueOf(m, set)) > VALUE_BOUND) return true;
        return false;
    }

    // ---- sheets

    @Override public int things(int n) {
        if (out(n, 0, 10)) return OUTSIDE;
        int before = worths.size();
        things = n;
        worths.clear();
        order.clear();
        for (int t = 0; t < n; t++) order.add(t);
        shares = new long[10];
        bottom = 1;
        return before;
    }

    @Override public int sheet(int s, int form, int n) {
        if (noSheet(s)) return UNKNOWN;
        if (out(form, 0, 2) || n > 1100) return OUTSIDE;
        if (n < 0) return met(4);
        fine();
        sheets[s] = new long[n];
        forms[s] = form;
        return n;
    }

    @Override public int tear(int s) {
        if (noSheet(s)) return UNKNOWN;
        int before = sheets[s] == null ? 0 : 1;
        sheets[s] = null;
        return before;
    }

    @Override public long put(int s, int form, int i, long v) {
        if (noSheet(s)) return UNKNOWN;
        if (out(form, 0, 2)) return OUTSIDE;
        if (sheets[s] == null) return met(1);
        if (forms[s] != form) return met(2);
        if (out(i, 0, sheets[s].length - 1)) return met(3);
        fine();
        int drop = form == 0 ? 56 : form == 1 ? 32 : 0;
        sheets[s][i] = v << drop >> drop;
        return sheets[s][i];
    }

    @Override public long at(int s, int i) {
        if (noSheet(s)) return UNKNOWN;
        if (sheets[s] == null) return met(1);
        if (out(i, 0, sheets[s].length - 1)) return met(3);
        met(0);
        return sheets[s][i];
    }

    // ---- worths

    private int make(int kind, int of, int set) {
        if (worths.size() == 12) return FULL;
        Made m = new Made();
        m.kind = kind;
        m.told = new long[sets()];
        m.known = new long[sets()];
        m.knownAt = new int[sets()];
        m.of = of;
        m.set = set;
        if (kind == 7 && isLarge(m)) return LARGE;
        if (kind > 5) worths.get(of).held = true;
        worths.add(m);
        return worths.size() - 1;
    }

    @Override public int worth(int kind) { return out(kind, 0, 4) ? OUTSIDE : make(kind, 0, 0); }
    @Override public int sum() { return make(5, 0, 0); }
    @Override public int part(int w, int set) { return noWorth(w) || noSet(set) ? UNKNOWN : make(6, w, set); }
    @Override public int beyond(int w, int set) { return noWorth(w) || noSet(set) ? UNKNOWN : make(7, w, set); }
    @Override public int kind(int w) { return noWorth(w) ? UNKNOWN : worths.get(w).kind; }
    @Override public int code() { return code; }

    @Override public int count(int what, int w) {
        if (out(what, 0, 6)) return OUTSIDE;
        if (what < 2) return what == 0 ? things : worths.size();
        if (noWorth(w)) return UNKNOWN;
        Made m = worths.get(w);
        return new int[] {m.lines.size(), m.spots.size(), m.rises.size(), m.summed.size(), m.held ? 1 : 0}[what - 2];
    }

    @Override public int tell(int w, int set, int v) {
        if (noWorth(w) || noSet(set)) return UNKNOWN;
        if (set == 0 || out(v, -1000000, 1000000)) return OUTSIDE;
        if (worths.get(w).held) return NOT;
        if (worths.get(w).kind != 0) return met(5);
        fine();
        worths.get(w).told[set] = v;
        return 1;
    }

    @Override public int read(int w, int s) {
        if (noWorth(w) || noSheet(s)) return UNKNOWN;
        Made m = worths.get(w);
        if (m.held) return NOT;
        if (m.kind != 0) return met(5);
        if (sheets[s] == null) return met(1);
        for (int set = 1; set < sets(); set++) if (set >= sheets[s].length) return met(3);
        for (int set = 1; set < sets(); set++) if (out(sheets[s][set], -1000000, 1000000)) return NOT;
        fine();
        for (int set = 1; set < sets(); set++) m.told[set] = sheets[s][set];
        return 1;
    }

    @Override public int line(int w, int a, int b, int width) {
        if (noWorth(w) || noThing(a) || noThing(b)) return UNKNOWN;
        if (out(width, 0, 10000)) return OUTSIDE;
        Made m = worths.get(w);
        if (m.held || a == b) return NOT;
        if (m.kind != 1) return met(5);
        if (m.lines.size() == 24) return FULL;
        fine();
        m.lines.add(new int[] {a, b, width});
        return m.lines.size();
    }

    @Override public int spot(int w, int weight, int set) {
        if (noWorth(w) || noSet(set)) return UNKNOWN;
        if (out(weight, 0, 10000)) return OUTSIDE;
        Made m = worths.get(w);
        if (m.held) return NOT;
        if (m.kind != 2) return met(5);
        if (m.spots.size() == 24) return FULL;
        fine();
        m.spots.add(new int[] {weight, set});
        return m.spots.size();
    }

    @Override public int row(int w, int t, int a, int b, int c, int d) {
        int[] row = {a, b, c, d};
        if (noWorth(w) || noThing(t)) return UNKNOWN;
        for (int v : row) if (out(v, -99, 99)) return OUTSIDE;
        Made m = worths.get(w);
        if (m.held) return NOT;
        if (m.kind != 3) return met(5);
        fine();
        m.rows[t] = row;
        return 1;
    }

    @Override public int rise(int w, int v) {
        if (noWorth(w)) return UNKNOWN;
        if (out(v, -10000, 10000)) return OUTSIDE;
        Made m = worths.get(w);
        if (m.held) return NOT;
        if (m.kind != 4) return met(5);
        if (m.rises.size() == 10) return FULL;
        if (!m.rises.isEmpty() && v > m.rises.get(m.rises.size() - 1)) return NOT;
        fine();
        m.rises.add(v);
        return m.rises.size();
    }

    @Override public int add(int w, int p, int factor) {
        if (noWorth(w) || noWorth(p)) return UNKNOWN;
        if (out(factor, 0, 100)) return OUTSIDE;
        Made m = worths.get(w);
        if (m.held || p >= w) return NOT;
        if (m.kind != 5) return met(5);
        if (m.summed.size() == 4) return FULL;
        m.summed.add(new int[] {p, factor});
        if (isLarge(m)) {
            m.summed.remove(m.summed.size() - 1);
            return LARGE;
        }
        fine();
        worths.get(p).held = true;
        return m.summed.size();
    }

    @Override public int price(int w, int t, int v) {
        if (noWorth(w) || noThing(t)) return UNKNOWN;
        if (out(v, -100000, 100000)) return OUTSIDE;
        Made m = worths.get(w);
        if (m.held) return NOT;
        if (m.kind != 5) return met(5);
        int before = m.prices[t];
        m.prices[t] = v;
        if (isLarge(m)) {
            m.prices[t] = before;
            return LARGE;
        }
        fine();
        return before;
    }

    // ---- what is worth what

    @Override public long value(int w, int set) { return noWorth(w) || noSet(set) ? UNKNOWN : val(w, set); }

    @Override public long adds(int w, int set, int t) {
        if (noWorth(w) || noSet(set) || noThing(t)) return UNKNOWN;
        return has(set, t) ? 0 : val(w, set + (1 << t)) - val(w, set);
    }

    private int[] firstBreak(int w) {
        for (int s = 0; s < sets(); s++) {
            for (int a = 0; a < things; a++) {
                for (int b = 0; b < things; b++) {
                    if (a == b || has(s, a) || has(s, b)) continue;
                    int sa = s + (1 << a), sb = s + (1 << b);
                    if (val(w, sa) + val(w, sb) < val(w, s) + val(w, sa | sb)) return new int[] {s, a, b};
                }
            }
        }
        return null;
    }

    @Override public int falls(int w) { return noWorth(w) ? UNKNOWN : firstBreak(w) == null ? 1 : 0; }

    @Override public int why(int w, int what) {
        if (noWorth(w)) return UNKNOWN;
        if (out(what, 0, 2)) return OUTSIDE;
        int[] found = firstBreak(w);
        return found == null ? NONE : found[what];
    }

    // ---- the least

    private List<Integer> leastSets(int w) {
        List<Integer> found = new ArrayList<>();
        for (int set = 0; set < sets(); set++) {
            if (!found.isEmpty() && val(w, set) < val(w, found.get(0))) found.clear();
            if (found.isEmpty() || val(w, set) == val(w, found.get(0))) found.add(set);
        }
        return found;
    }

    @Override public long least(int w) { return noWorth(w) ? UNKNOWN : val(w, leastSets(w).get(0)); }

    @Override public int all(int w, int what) {
        if (noWorth(w)) return UNKNOWN;
        if (out(what, 0, 3)) return OUTSIDE;
        List<Integer> sets = leastSets(w);
        int both = sets() - 1, some = 0;
        for (int set : sets) {
            both &= set;
            some |= set;
        }
        return what == 0 ? sets.size() : what == 1 ? both : what == 2 ? some : closed(sets) ? 1 : 0;
    }

    private boolean closed(List<Integer> sets) {
        boolean[] is = new boolean[sets()];
        for (int set : sets) is[set] = true;
        for (int a : sets) for (int b : sets) if (!is[a & b] || !is[a | b]) return false;
        return true;
    }

    @Override public int one(int w, int i) {
        if (noWorth(w)) return UNKNOWN;
        List<Integer> sets = leastSets(w);
        return out(i, 0, sets.size() - 1) ? NONE : sets.get(i);
    }

    private long low(int w, int k) {
        long low = Long.MAX_VALUE;
        for (int set = 0; set < sets(); set++) if (Integer.bitCount(set) == k) low = Math.min(low, val(w, set));
        return low;
    }

    @Override public long level(int w, int k) { return noWorth(w) ? UNKNOWN : out(k, 0, things) ? OUTSIDE : low(w, k); }

    /** The least of the COUNTS that are least, for prices at, between and beyond all slopes. */
    private List<Integer> turns(int w) {
        long[] f = new long[things + 1];
        for (int k = 0; k <= things; k++) f[k] = low(w, k);
        // Slopes times 2 * 2520 are whole, and unlike ones differ by 2 at least there; so do what lies between.
        TreeSet<Long> prices = new TreeSet<>();
        for (int i = 0; i <= things; i++) {
            for (int j = i + 1; j <= things; j++) {
                long slope = (f[j] - f[i]) * 5040 / (j - i);
                prices.addAll(Arrays.asList(slope - 1, slope, slope + 1));
            }
        }
        TreeSet<Integer> found = new TreeSet<>(Collections.singleton(0));
        for (long p : prices) {
            int at = 0;
            for (int k = 1; k <= things; k++) if (f[k] * 5040 - p * k < f[at] * 5040 - p * at) at = k;
            found.add(at);
        }
        return new ArrayList<>(found);
    }

    @Override public int bends(int w) { return noWorth(w) ? UNKNOWN : turns(w).size() - 1; }

    @Override public long bend(int w, int i, int what) {
        if (noWorth(w)) return UNKNOWN;
        List<Integer> turns = turns(w);
        if (out(i, 0, turns.size() - 2)) return UNKNOWN;
        if (out(what, 0, 3)) return OUTSIDE;
        int from = turns.get(i), to = turns.get(i + 1);
        if (what > 1) return what == 2 ? from : to;
        BigInteger top = BigInteger.valueOf(low(w, to) - low(w, from)), low = BigInteger.valueOf(to - from);
        return (what == 0 ? top : low).divide(top.gcd(low)).longValueExact();
    }

    // ---- orders, shares

    @Override public int order(int t, int i) {
        if (noThing(t)) return UNKNOWN;
        if (out(i, 0, things - 1)) return OUTSIDE;
        int before = order.indexOf(t);
        order.remove(before);
        order.add(i, t);
        return before;
    }

    private long[] cornerOf(int w) {
        long[] found = new long[10];
        for (int i = 0; i < things; i++) {
            int ahead = 0;
            for (int t : order.subList(0, i)) ahead |= 1 << t;
            found[order.get(i)] = adds(w, ahead, order.get(i));
        }
        return found;
    }

    @Override public int corner(int w) {
        if (noWorth(w)) return UNKNOWN;
        shares = cornerOf(w);
        bottom = 1;
        return 1;
    }

    @Override public int mix(int w, int f, int g) {
        if (noWorth(w)) return UNKNOWN;
        if (out(f, 0, 1000) || out(g, 0, 1000) || f + g == 0) return OUTSIDE;
        long newBottom = (long) bottom * f + g;
        long[] corner = cornerOf(w), mixed = new long[10];
        boolean large = newBottom > 1000000;
        for (int t = 0; t < things; t++) {
            mixed[t] = Math.addExact(Math.multiplyExact(shares[t], f), Math.multiplyExact(corner[t], g));
            large |= Math.abs(mixed[t]) > SHARE_BOUND;
        }
        if (large) return LARGE;
        shares = mixed;
        bottom = (int) newBottom;
        return bottom;
    }

    @Override public long share(int t, long v) {
        if (noThing(t)) return UNKNOWN;
        if (out(v, -1000000000000L, 1000000000000L)) return OUTSIDE;
        long before = shares[t];
        shares[t] = v;
        return before;
    }

    @Override public long shareOf(int t) { return t == NONE ? bottom : noThing(t) ? UNKNOWN : shares[t]; }

    private int over(int w, int set) {
        BigInteger sum = BigInteger.ZERO;
        for (int t = 0; t < things; t++) if (has(set, t)) sum = sum.add(BigInteger.valueOf(shares[t]));
        return sum.compareTo(BigInteger.valueOf(val(w, set)).multiply(BigInteger.valueOf(bottom)));
    }

    @Override public int in(int w) {
        if (noWorth(w)) return UNKNOWN;
        for (int set = 0; set < sets(); set++) if (over(w, set) > 0) return set;
        return over(w, sets() - 1) < 0 ? sets() - 1 : NONE;
    }

    @Override public int proves(int w) {
        if (noWorth(w)) return UNKNOWN;
        BigInteger below = BigInteger.ZERO;
        for (long s : shares) if (s < 0) below = below.add(BigInteger.valueOf(s));
        boolean just = below.equals(BigInteger.valueOf(least(w)).multiply(BigInteger.valueOf(bottom)));
        return just && in(w) == NONE ? 1 : 0;
    }

    // ---- greed

    @Override public int greed(int w, int k) {
        if (noWorth(w)) return UNKNOWN;
        if (out(k, 0, 10)) return OUTSIDE;
        int set = 0;
        while (Integer.bitCount(set) < k) {
            int most = NONE;
            for (int t = things - 1; t >= 0; t--) {
                if (!has(set, t) && (most == NONE || adds(w, set, t) >= adds(w, set, most))) most = t;
            }
            if (most == NONE || adds(w, set, most) <= 0) return set;
            set |= 1 << most;
        }
        return set;
    }

    @Override public long best(int w, int k) {
        if (noWorth(w)) return UNKNOWN;
        if (out(k, 0, 10)) return OUTSIDE;
        long best = Long.MIN_VALUE;
        for (int set = 0; set < sets(); set++) if (Integer.bitCount(set) <= k) best = Math.max(best, val(w, set));
        return best;
    }
}
