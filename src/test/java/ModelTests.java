import java.math.BigInteger;
import java.util.ArrayList;
import java.util.Arrays;
import java.util.Collections;
import java.util.HashMap;
import java.util.List;
import java.util.Map;
import java.util.Random;
import java.util.TreeSet;

/** Drawn runs of calls, with fixed seeds; each answer is held against a plain model of the document. */
public final class ModelTests {
    private static final int NONE = -1, UNKNOWN = -1001, OUTSIDE = -1002, NOT = -1003, FULL = -1004, LARGE = -1005;
    private static final int RUNS = 3000, CALLS = 512;
    private static final long VALUE_BOUND = 1000000000000L, SHARE_BOUND = 1000000000000000L;

    private static final class Made {
        int kind;
        boolean held;
        long[] told;
        List<int[]> lines = new ArrayList<>();
        List<int[]> spots = new ArrayList<>();
        int[][] rows = new int[10][4];
        List<Integer> rises = new ArrayList<>();
        List<int[]> summed = new ArrayList<>();
        int[] prices = new int[10];
        int of, set;
    }

    /** Keeps what was told, and works out each answer anew from the document's words. */
    private static final class Model {
        int things, code, bottom = 1;
        List<Made> worths = new ArrayList<>();
        List<Integer> order = new ArrayList<>();
        long[] shares = new long[10];
        long[][] sheets = new long[4][];
        int[] forms = new int[4];
        Map<Integer, Long> known = new HashMap<>();

        boolean noThing(int t) { return t < 0 || t >= things; }
        boolean noSet(int s) { return s < 0 || s >= sets(); }
        boolean noWorth(int w) { return w < 0 || w >= worths.size(); }
        boolean noSheet(int s) { return s < 0 || s > 3; }
        boolean out(long v, long low, long high) { return v < low || v > high; }
        int sets() { return 1 << things; }
        int met(int c) { code = c; return 0; }

        // ---- values

        long val(int w, int set) {
            Long old = known.get(w * 1024 + set);
            if (old != null) return old;
            long v = valueOf(worths.get(w), set);
            known.put(w * 1024 + set, v);
            return v;
        }

        long valueOf(Made m, int set) {
            switch (m.kind) {
                case 0: return m.told[set];
                case 1: return m.lines.stream().filter(l -> has(set, l[0]) && !has(set, l[1])).mapToLong(l -> l[2]).sum();
                case 2: return m.spots.stream().filter(s -> covers(set, s[1])).mapToLong(s -> s[0]).sum();
                case 3: return rank(m, set);
                case 4: return firstRises(m, Integer.bitCount(set));
                case 5: return summed(m, set);
                case 6: return val(m.of, set & m.set);
                default: return val(m.of, set | m.set) - val(m.of, m.set);
            }
        }

        static boolean has(int set, int t) { return (set & (1 << t)) != 0; }

        boolean covers(int set, int spot) {
            for (int t = 0; t < things; t++) if (has(set, t) && has(spot, t)) return true;
            return false;
        }

        long firstRises(Made m, int count) {
            long sum = 0;
            for (int i = 0; i < count; i++) {
                if (!m.rises.isEmpty()) sum += m.rises.get(Math.min(i, m.rises.size() - 1));
            }
            return sum;
        }

        long summed(Made m, int set) {
            long sum = 0;
            for (int[] s : m.summed) sum += s[1] * val(s[0], set);
            for (int t = 0; t < things; t++) if (has(set, t)) sum += m.prices[t];
            return sum;
        }

        /** The size of the largest square part whose determinant is not 0. */
        int rank(Made m, int set) {
            for (int size = 4; size > 0; size--) {
                for (int few = 0; few < sets(); few++) {
                    if ((few & ~set) != 0 || Integer.bitCount(few) != size) continue;
                    for (int columns = 0; columns < 16; columns++) {
                        if (Integer.bitCount(columns) == size && determinant(m.rows, few, columns).signum() != 0) return size;
                    }
                }
            }
            return 0;
        }

        BigInteger determinant(int[][] rows, int few, int columns) {
            if (few == 0) return BigInteger.ONE;
            int row = Integer.numberOfTrailingZeros(few);
            BigInteger sum = BigInteger.ZERO;
            int sign = 1;
            for (int c = 0; c < 4; c++) {
                if (!has(columns, c)) continue;
                BigInteger small = determinant(rows, few & (few - 1), columns & ~(1 << c));
                sum = sum.add(small.multiply(BigInteger.valueOf((long) sign * rows[row][c])));
                sign = -sign;
            }
            return sum;
        }

        boolean isLarge(Made m) {
            for (int set = 0; set < sets(); set++) if (Math.abs(valueOf(m, set)) > VALUE_BOUND) return true;
            return false;
        }

        // ---- the calls

        int things(int n) {
            if (out(n, 0, 10)) return OUTSIDE;
            int before = worths.size();
            things = n;
            worths.clear();
            order.clear();
            for (int t = 0; t < n; t++) order.add(t);
            shares = new long[10];
            bottom = 1;
            return before;
        }

        int sheet(int s, int form, int n) {
            if (noSheet(s)) return UNKNOWN;
            if (out(form, 0, 2) || n > 1100) return OUTSIDE;
            if (n < 0) return met(4);
            met(0);
            sheets[s] = new long[n];
            forms[s] = form;
            return n;
        }

        int tear(int s) {
            if (noSheet(s)) return UNKNOWN;
            int before = sheets[s] == null ? 0 : 1;
            sheets[s] = null;
            return before;
        }

        long put(int s, int form, int i, long v) {
            if (noSheet(s)) return UNKNOWN;
            if (out(form, 0, 2)) return OUTSIDE;
            if (sheets[s] == null) return met(1);
            if (forms[s] != form) return met(2);
            if (out(i, 0, sheets[s].length - 1)) return met(3);
            met(0);
            int drop = form == 0 ? 56 : form == 1 ? 32 : 0;
            sheets[s][i] = v << drop >> drop;
            return sheets[s][i];
        }

        long at(int s, int i) {
            if (noSheet(s)) return UNKNOWN;
            if (sheets[s] == null) return met(1);
            if (out(i, 0, sheets[s].length - 1)) return met(3);
            met(0);
            return sheets[s][i];
        }

        int make(int kind, int of, int set) {
            if (worths.size() == 12) return FULL;
            Made m = new Made();
            m.kind = kind;
            m.told = new long[sets()];
            m.of = of;
            m.set = set;
            if (kind == 7 && isLarge(m)) return LARGE;
            if (kind > 5) worths.get(of).held = true;
            worths.add(m);
            return worths.size() - 1;
        }

        int worth(int kind) { return out(kind, 0, 4) ? OUTSIDE : make(kind, 0, 0); }
        int sum() { return make(5, 0, 0); }
        int part(int w, int set) { return noWorth(w) || noSet(set) ? UNKNOWN : make(6, w, set); }
        int beyond(int w, int set) { return noWorth(w) || noSet(set) ? UNKNOWN : make(7, w, set); }
        int kind(int w) { return noWorth(w) ? UNKNOWN : worths.get(w).kind; }

        int count(int what, int w) {
            if (out(what, 0, 6)) return OUTSIDE;
            if (what < 2) return what == 0 ? things : worths.size();
            if (noWorth(w)) return UNKNOWN;
            Made m = worths.get(w);
            return new int[] {m.lines.size(), m.spots.size(), m.rises.size(), m.summed.size(), m.held ? 1 : 0}[what - 2];
        }

        int tell(int w, int set, int v) {
            if (noWorth(w) || noSet(set)) return UNKNOWN;
            if (set == 0 || out(v, -1000000, 1000000)) return OUTSIDE;
            if (worths.get(w).held) return NOT;
            if (worths.get(w).kind != 0) return met(5);
            met(0);
            worths.get(w).told[set] = v;
            return 1;
        }

        int read(int w, int s) {
            if (noWorth(w) || noSheet(s)) return UNKNOWN;
            Made m = worths.get(w);
            if (m.held) return NOT;
            if (m.kind != 0) return met(5);
            if (sheets[s] == null) return met(1);
            for (int set = 1; set < sets(); set++) if (set >= sheets[s].length) return met(3);
            for (int set = 1; set < sets(); set++) if (out(sheets[s][set], -1000000, 1000000)) return NOT;
            met(0);
            for (int set = 1; set < sets(); set++) m.told[set] = sheets[s][set];
            return 1;
        }

        int line(int w, int a, int b, int width) {
            if (noWorth(w) || noThing(a) || noThing(b)) return UNKNOWN;
            if (out(width, 0, 10000)) return OUTSIDE;
            Made m = worths.get(w);
            if (m.held || a == b) return NOT;
            if (m.kind != 1) return met(5);
            if (m.lines.size() == 24) return FULL;
            met(0);
            m.lines.add(new int[] {a, b, width});
            return m.lines.size();
        }

        int spot(int w, int weight, int set) {
            if (noWorth(w) || noSet(set)) return UNKNOWN;
            if (out(weight, 0, 10000)) return OUTSIDE;
            Made m = worths.get(w);
            if (m.held) return NOT;
            if (m.kind != 2) return met(5);
            if (m.spots.size() == 24) return FULL;
            met(0);
            m.spots.add(new int[] {weight, set});
            return m.spots.size();
        }

        int row(int w, int t, int... row) {
            if (noWorth(w) || noThing(t)) return UNKNOWN;
            for (int v : row) if (out(v, -99, 99)) return OUTSIDE;
            Made m = worths.get(w);
            if (m.held) return NOT;
            if (m.kind != 3) return met(5);
            met(0);
            m.rows[t] = row;
            return 1;
        }

        int rise(int w, int v) {
            if (noWorth(w)) return UNKNOWN;
            if (out(v, -10000, 10000)) return OUTSIDE;
            Made m = worths.get(w);
            if (m.held) return NOT;
            if (m.kind != 4) return met(5);
            if (m.rises.size() == 10) return FULL;
            if (!m.rises.isEmpty() && v > m.rises.get(m.rises.size() - 1)) return NOT;
            met(0);
            m.rises.add(v);
            return m.rises.size();
        }

        int add(int w, int p, int factor) {
            if (noWorth(w) || noWorth(p)) return UNKNOWN;
            if (out(factor, 0, 100)) return OUTSIDE;
            Made m = worths.get(w);
            if (m.held || p >= w) return NOT;
            if (m.kind != 5) return met(5);
            if (m.summed.size() == 4) return FULL;
            m.summed.add(new int[] {p, factor});
            if (isLarge(m)) {
                m.summed.remove(m.summed.size() - 1);
                return LARGE;
            }
            met(0);
            worths.get(p).held = true;
            return m.summed.size();
        }

        int price(int w, int t, int v) {
            if (noWorth(w) || noThing(t)) return UNKNOWN;
            if (out(v, -100000, 100000)) return OUTSIDE;
            Made m = worths.get(w);
            if (m.held) return NOT;
            if (m.kind != 5) return met(5);
            int before = m.prices[t];
            m.prices[t] = v;
            if (isLarge(m)) {
                m.prices[t] = before;
                return LARGE;
            }
            met(0);
            return before;
        }

        long value(int w, int set) { return noWorth(w) || noSet(set) ? UNKNOWN : val(w, set); }

        long adds(int w, int set, int t) {
            if (noWorth(w) || noSet(set) || noThing(t)) return UNKNOWN;
            return has(set, t) ? 0 : val(w, set + (1 << t)) - val(w, set);
        }

        int[] firstBreak(int w) {
            for (int s = 0; s < sets(); s++) {
                for (int a = 0; a < things; a++) {
                    for (int b = 0; b < things; b++) {
                        if (a == b || has(s, a) || has(s, b)) continue;
                        int sa = s + (1 << a), sb = s + (1 << b);
                        if (val(w, sa) + val(w, sb) < val(w, s) + val(w, sa | sb)) return new int[] {s, a, b};
                    }
                }
            }
            return null;
        }

        int falls(int w) { return noWorth(w) ? UNKNOWN : firstBreak(w) == null ? 1 : 0; }

        int why(int w, int what) {
            if (noWorth(w)) return UNKNOWN;
            if (out(what, 0, 2)) return OUTSIDE;
            int[] found = firstBreak(w);
            return found == null ? NONE : found[what];
        }

        List<Integer> leastSets(int w) {
            List<Integer> found = new ArrayList<>();
            for (int set = 0; set < sets(); set++) {
                if (!found.isEmpty() && val(w, set) < val(w, found.get(0))) found.clear();
                if (found.isEmpty() || val(w, set) == val(w, found.get(0))) found.add(set);
            }
            return found;
        }

        long least(int w) { return noWorth(w) ? UNKNOWN : val(w, leastSets(w).get(0)); }

        int all(int w, int what) {
            if (noWorth(w)) return UNKNOWN;
            if (out(what, 0, 3)) return OUTSIDE;
            List<Integer> sets = leastSets(w);
            int both = sets() - 1, some = 0;
            for (int set : sets) {
                both &= set;
                some |= set;
            }
            return what == 0 ? sets.size() : what == 1 ? both : what == 2 ? some : closed(sets) ? 1 : 0;
        }

        boolean closed(List<Integer> sets) {
            boolean[] is = new boolean[sets()];
            for (int set : sets) is[set] = true;
            for (int a : sets) for (int b : sets) if (!is[a & b] || !is[a | b]) return false;
            return true;
        }

        int one(int w, int i) {
            if (noWorth(w)) return UNKNOWN;
            List<Integer> sets = leastSets(w);
            return out(i, 0, sets.size() - 1) ? NONE : sets.get(i);
        }

        long low(int w, int k) {
            long low = Long.MAX_VALUE;
            for (int set = 0; set < sets(); set++) if (Integer.bitCount(set) == k) low = Math.min(low, val(w, set));
            return low;
        }

        long level(int w, int k) { return noWorth(w) ? UNKNOWN : out(k, 0, things) ? OUTSIDE : low(w, k); }

        /** The least of the COUNTS that are least, for prices at, between and beyond all slopes. */
        List<Integer> turns(int w) {
            long[] f = new long[things + 1];
            for (int k = 0; k <= things; k++) f[k] = low(w, k);
            // Slopes times 2 * 2520 are whole, and unlike ones differ by 2 at least there; so do what lies between.
            TreeSet<Long> prices = new TreeSet<>();
            for (int i = 0; i <= things; i++) {
                for (int j = i + 1; j <= things; j++) {
                    long slope = (f[j] - f[i]) * 5040 / (j - i);
                    prices.addAll(Arrays.asList(slope - 1, slope, slope + 1));
                }
            }
            TreeSet<Integer> found = new TreeSet<>(Collections.singleton(0));
            for (long p : prices) {
                int at = 0;
                for (int k = 1; k <= things; k++) if (f[k] * 5040 - p * k < f[at] * 5040 - p * at) at = k;
                found.add(at);
            }
            return new ArrayList<>(found);
        }

        int bends(int w) { return noWorth(w) ? UNKNOWN : turns(w).size() - 1; }

        long bend(int w, int i, int what) {
            if (noWorth(w)) return UNKNOWN;
            List<Integer> turns = turns(w);
            if (out(i, 0, turns.size() - 2)) return UNKNOWN;
            if (out(what, 0, 3)) return OUTSIDE;
            int from = turns.get(i), to = turns.get(i + 1);
            if (what > 1) return what == 2 ? from : to;
            BigInteger top = BigInteger.valueOf(low(w, to) - low(w, from)), low = BigInteger.valueOf(to - from);
            return (what == 0 ? top : low).divide(top.gcd(low)).longValueExact();
        }

        int order(int t, int i) {
            if (noThing(t)) return UNKNOWN;
            if (out(i, 0, things - 1)) return OUTSIDE;
            int before = order.indexOf(t);
            order.remove(before);
            order.add(i, t);
            return before;
        }

        long[] cornerOf(int w) {
            long[] found = new long[10];
            for (int i = 0; i < things; i++) {
                int ahead = 0;
                for (int t : order.subList(0, i)) ahead |= 1 << t;
                found[order.get(i)] = adds(w, ahead, order.get(i));
            }
            return found;
        }

        int corner(int w) {
            if (noWorth(w)) return UNKNOWN;
            shares = cornerOf(w);
            bottom = 1;
            return 1;
        }

        int mix(int w, int f, int g) {
            if (noWorth(w)) return UNKNOWN;
            if (out(f, 0, 1000) || out(g, 0, 1000) || f + g == 0) return OUTSIDE;
            long newBottom = (long) bottom * f + g;
            long[] corner = cornerOf(w), mixed = new long[10];
            boolean large = newBottom > 1000000;
            for (int t = 0; t < things; t++) {
                mixed[t] = Math.addExact(Math.multiplyExact(shares[t], f), Math.multiplyExact(corner[t], g));
                large |= Math.abs(mixed[t]) > SHARE_BOUND;
            }
            if (large) return LARGE;
            shares = mixed;
            bottom = (int) newBottom;
            return bottom;
        }

        long share(int t, long v) {
            if (noThing(t)) return UNKNOWN;
            if (out(v, -1000000000000L, 1000000000000L)) return OUTSIDE;
            long before = shares[t];
            shares[t] = v;
            return before;
        }

        long shareOf(int t) { return t == NONE ? bottom : noThing(t) ? UNKNOWN : shares[t]; }

        int over(int w, int set) {
            BigInteger sum = BigInteger.ZERO;
            for (int t = 0; t < things; t++) if (has(set, t)) sum = sum.add(BigInteger.valueOf(shares[t]));
            return sum.compareTo(BigInteger.valueOf(val(w, set)).multiply(BigInteger.valueOf(bottom)));
        }

        int in(int w) {
            if (noWorth(w)) return UNKNOWN;
            for (int set = 0; set < sets(); set++) if (over(w, set) > 0) return set;
            return over(w, sets() - 1) < 0 ? sets() - 1 : NONE;
        }

        int proves(int w) {
            if (noWorth(w)) return UNKNOWN;
            BigInteger below = BigInteger.ZERO;
            for (long s : shares) if (s < 0) below = below.add(BigInteger.valueOf(s));
            boolean just = below.equals(BigInteger.valueOf(least(w)).multiply(BigInteger.valueOf(bottom)));
            return just && in(w) == NONE ? 1 : 0;
        }

        int greed(int w, int k) {
            if (noWorth(w)) return UNKNOWN;
            if (out(k, 0, 10)) return OUTSIDE;
            int set = 0;
            while (Integer.bitCount(set) < k) {
                int most = NONE;
                for (int t = things - 1; t >= 0; t--) {
                    if (!has(set, t) && (most == NONE || adds(w, set, t) >= adds(w, set, most))) most = t;
                }
                if (most == NONE || adds(w, set, most) <= 0) return set;
                set |= 1 << most;
            }
            return set;
        }

        long best(int w, int k) {
            if (noWorth(w)) return UNKNOWN;
            if (out(k, 0, 10)) return OUTSIDE;
            long best = Long.MIN_VALUE;
            for (int set = 0; set < sets(); set++) if (Integer.bitCount(set) <= k) best = Math.max(best, val(w, set));
            return best;
        }
    }

    // ---- drawing

    private static Random random;
    private static Model model;
    private static FallingGains bench;
    private static int focus;
    private static final int[] FAR = {Integer.MIN_VALUE, -1005, -2, 12, 1024, 1 << 20, Integer.MAX_VALUE};

    /** Mostly within, at times at the bounds, just beyond them, or far away. */
    private static int draw(int low, int high) {
        int way = random.nextInt(60);
        if (way == 0) return FAR[random.nextInt(FAR.length)];
        if (way == 1) return low - 1;
        if (way == 2) return high + 1;
        if (way < 6) return low;
        if (way < 9) return high;
        return high < low ? low : low + random.nextInt(high - low + 1);
    }

    private static int drawThing() { return draw(0, model.things - 1); }
    private static int drawSet() { return draw(0, model.sets() - 1); }
    private static int drawWorth() { return draw(0, model.worths.size() - 1); }
    private static int drawSmall(int bound) { return random.nextInt(3) > 0 ? draw(-4, 4) : draw(-bound, bound); }

    /** A WORTH of a KIND that is not HELD, if there is one, so that the calls that change WORTHS often can. */
    private static int drawOfKind(int kind) {
        List<Integer> fit = new ArrayList<>();
        for (int w = 0; w < model.worths.size(); w++) {
            if (model.worths.get(w).kind == kind && !model.worths.get(w).held) fit.add(w);
        }
        return fit.isEmpty() || random.nextInt(20) == 0 ? drawWorth() : fit.get(random.nextInt(fit.size()));
    }

    private static long drawLong(long bound) {
        switch (random.nextInt(8)) {
            case 0: return random.nextLong();
            case 1: return random.nextBoolean() ? bound : -bound;
            case 2: return random.nextBoolean() ? bound + 1 : -bound - 1;
            case 3: return random.nextLong() % (bound + 1);
            default: return random.nextInt(21) - 10;
        }
    }

    private static String call;
    private static long got, want;

    private static void asked(String text, long g, long m) {
        call = text;
        got = g;
        want = m;
    }

    private static void change(int largest) {
        int a, b, c, d;
        // Each run keeps to one sort of change more than to others, so that some come to FULL and to LARGE.
        switch (random.nextInt(3) == 0 ? focus : random.nextInt(24)) {
            case 0:
                if (random.nextInt(12) > 0) return;
                a = draw(0, largest);
                if (a > largest && a <= 10) a = largest;
                asked("things(" + a + ")", bench.things(a), model.things(a));
                return;
            case 1: a = draw(0, 3); b = draw(0, 2); c = random.nextBoolean() ? model.sets() + random.nextInt(3) - 1 : draw(-1, 1100);
                asked("sheet(" + a + ", " + b + ", " + c + ")", bench.sheet(a, b, c), model.sheet(a, b, c));
                return;
            case 2:
                a = draw(0, 3);
                if (random.nextInt(4) > 0) return;
                asked("tear(" + a + ")", bench.tear(a), model.tear(a));
                return;
            case 3: case 4: case 5: {
                a = draw(0, 3);
                b = a >= 0 && a < 4 && random.nextInt(8) > 0 ? model.forms[a] : draw(0, 2);
                c = random.nextInt(8) > 0 ? drawSet() : draw(0, 1100);
                long v = drawLong(1000000);
                asked("put(" + a + ", " + b + ", " + c + ", " + v + ")", bench.put(a, b, c, v), model.put(a, b, c, v));
                return;
            }
            case 6: a = draw(0, 4); asked("worth(" + a + ")", bench.worth(a), model.worth(a)); return;
            case 7: asked("sum()", bench.sum(), model.sum()); return;
            case 8:
                if (random.nextInt(3) > 0) return;
                a = drawWorth(); b = drawSet();
                asked("part(" + a + ", " + b + ")", bench.part(a, b), model.part(a, b));
                return;
            case 9:
                if (random.nextInt(3) > 0) return;
                a = drawWorth(); b = drawSet();
                asked("beyond(" + a + ", " + b + ")", bench.beyond(a, b), model.beyond(a, b));
                return;
            case 10: case 11: case 12: a = drawOfKind(0); b = drawSet(); c = drawSmall(1000000);
                asked("tell(" + a + ", " + b + ", " + c + ")", bench.tell(a, b, c), model.tell(a, b, c));
                return;
            case 13: a = drawOfKind(0); b = draw(0, 3); asked("read(" + a + ", " + b + ")", bench.read(a, b), model.read(a, b)); return;
            case 14: case 15: a = drawOfKind(1); b = drawThing(); c = drawThing(); d = draw(0, random.nextBoolean() ? 5 : 10000);
                asked("line(" + a + ", " + b + ", " + c + ", " + d + ")", bench.line(a, b, c, d), model.line(a, b, c, d));
                return;
            case 16: case 17: a = drawOfKind(2); b = draw(0, random.nextBoolean() ? 5 : 10000); c = drawSet();
                asked("spot(" + a + ", " + b + ", " + c + ")", bench.spot(a, b, c), model.spot(a, b, c));
                return;
            case 18: case 19: {
                a = drawOfKind(3); b = drawThing();
                int bound = random.nextBoolean() ? 1 : 99;
                int[] r = {draw(-bound, bound), draw(-bound, bound), draw(-bound, bound), draw(-bound, bound)};
                if (random.nextBoolean()) r[3] = 0;
                asked("row(" + a + ", " + b + ", " + Arrays.toString(r) + ")", bench.row(a, b, r[0], r[1], r[2], r[3]), model.row(a, b, r));
                return;
            }
            case 20: a = drawOfKind(4); b = drawSmall(10000); asked("rise(" + a + ", " + b + ")", bench.rise(a, b), model.rise(a, b)); return;
            case 21: case 22: a = drawOfKind(5); b = drawWorth(); c = random.nextBoolean() ? 100 : draw(0, 3);
                if (a > 0 && random.nextBoolean()) b = a - 1;
                asked("add(" + a + ", " + b + ", " + c + ")", bench.add(a, b, c), model.add(a, b, c));
                return;
            default: a = drawOfKind(5); b = drawThing(); c = drawSmall(100000);
                asked("price(" + a + ", " + b + ", " + c + ")", bench.price(a, b, c), model.price(a, b, c));
        }
    }

    private static void ask() {
        int w = drawWorth(), b, c;
        switch (random.nextInt(24)) {
            case 0: b = draw(0, 3); c = random.nextInt(4) > 0 ? drawSet() : draw(0, 1100);
                asked("at(" + b + ", " + c + ")", bench.at(b, c), model.at(b, c));
                return;
            case 1: asked("kind(" + w + ")", bench.kind(w), model.kind(w)); return;
            case 2: case 3: b = draw(0, 6); asked("count(" + b + ", " + w + ")", bench.count(b, w), model.count(b, w)); return;
            case 4: case 5: b = drawSet(); asked("value(" + w + ", " + b + ")", bench.value(w, b), model.value(w, b)); return;
            case 6: b = drawSet(); c = drawThing();
                asked("adds(" + w + ", " + b + ", " + c + ")", bench.adds(w, b, c), model.adds(w, b, c));
                return;
            case 7: asked("falls(" + w + ")", bench.falls(w), model.falls(w)); return;
            case 8: b = draw(0, 2); asked("why(" + w + ", " + b + ")", bench.why(w, b), model.why(w, b)); return;
            case 9: asked("least(" + w + ")", bench.least(w), model.least(w)); return;
            case 10: b = draw(0, 3); asked("all(" + w + ", " + b + ")", bench.all(w, b), model.all(w, b)); return;
            case 11: b = draw(0, 3); asked("one(" + w + ", " + b + ")", bench.one(w, b), model.one(w, b)); return;
            case 12: b = draw(0, model.things); asked("level(" + w + ", " + b + ")", bench.level(w, b), model.level(w, b)); return;
            case 13: asked("bends(" + w + ")", bench.bends(w), model.bends(w)); return;
            case 14: case 15: b = draw(0, Math.min(2, model.things)); c = draw(0, 3);
                asked("bend(" + w + ", " + b + ", " + c + ")", bench.bend(w, b, c), model.bend(w, b, c));
                return;
            case 16: b = drawThing(); c = drawThing(); asked("order(" + b + ", " + c + ")", bench.order(b, c), model.order(b, c)); return;
            case 17: asked("corner(" + w + ")", bench.corner(w), model.corner(w)); return;
            case 18:
                int most = random.nextBoolean() ? 3 : 1000;
                b = draw(0, most); c = draw(0, most);
                asked("mix(" + w + ", " + b + ", " + c + ")", bench.mix(w, b, c), model.mix(w, b, c));
                return;
            case 19: {
                b = drawThing();
                long v = drawLong(1000000000000L);
                asked("share(" + b + ", " + v + ")", bench.share(b, v), model.share(b, v));
                return;
            }
            case 20: b = draw(-1, model.things - 1); asked("shareOf(" + b + ")", bench.shareOf(b), model.shareOf(b)); return;
            case 21: asked("in(" + w + ")", bench.in(w), model.in(w)); return;
            case 22: asked("proves(" + w + ")", bench.proves(w), model.proves(w)); return;
            default: b = draw(0, 10);
                if (random.nextBoolean()) asked("greed(" + w + ", " + b + ")", bench.greed(w, b), model.greed(w, b));
                else asked("best(" + w + ", " + b + ")", bench.best(w, b), model.best(w, b));
        }
    }

    /** Whether all answers of one run are as the model's; code() is asked behind each call, and counted too. */
    private static boolean holds(int seed) {
        random = new Random(seed);
        model = new Model();
        bench = new FallingGains();
        focus = seed % 24;
        int largest = seed % 50 == 0 ? 10 : seed % 5 == 0 ? 6 : 4;
        int start = Math.min(largest, 1 + random.nextInt(largest));
        if (bench.things(start) != model.things(start)) return false;
        for (int i = 1; i + 1 < CALLS; i += 2) {
            call = null;
            model.known.clear();
            if (random.nextInt(5) < (i < CALLS / 3 ? 4 : 2)) change(largest);
            else ask();
            if (call == null) continue;
            tally.merge(call.substring(0, call.indexOf('(')) + (want <= UNKNOWN && want >= LARGE ? " " + want : ""), 1, Integer::sum);
            if (got != want || bench.code() != model.code) {
                System.out.println("seed " + seed + ", call " + i + ": " + call + " answered " + got + ", due is " + want
                    + "; code " + bench.code() + ", due is " + model.code);
                return false;
            }
        }
        return true;
    }

    private static final Map<String, Integer> tally = new java.util.TreeMap<>();

    public static void main(String[] args) {
        int wrong = 0;
        for (int seed = 1; seed <= RUNS; seed++) if (!holds(seed)) wrong++;
        if (args.length > 1) System.out.println(tally);
        System.out.println(RUNS + " drawn runs, " + wrong + " not as the model");
        if (wrong != 0) System.exit(1);
    }
}
