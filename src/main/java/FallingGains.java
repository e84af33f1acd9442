/** A bench for worths of sets of things. README.md tells how to use it. */
public final class FallingGains {
    public static final int NONE = -1, UNKNOWN = -1001, OUTSIDE = -1002, NOT = -1003, FULL = -1004, LARGE = -1005;

    private static final int TOLD = 0, CUT = 1, COVER = 2, RANK = 3, BENT = 4, SUM = 5, PART = 6, BEYOND = 7;
    private static final int BYTES = 0, INTS = 1, LONGS = 2;
    private static final int NO_ROW = 1, OTHER_FORM = 2, NO_PLACE = 3, PLACES_BELOW_0 = 4, OTHER_KIND = 5;

    private static final int MOST_THINGS = 10, MOST_SETS = 1 << MOST_THINGS, MOST_WORTHS = 12;
    private static final int SHEETS = 4, MOST_PLACES = 1100, ROW_LENGTH = 4;
    private static final int MOST_LINES = 24, MOST_SPOTS = 24, MOST_RISES = 10, MOST_SUMMED = 4;
    private static final int LARGEST_TOLD = 1000000, LARGEST_WIDTH = 10000, LARGEST_WEIGHT = 10000;
    private static final int LARGEST_IN_ROW = 99, LARGEST_RISE = 10000, LARGEST_FACTOR = 100;
    private static final int LARGEST_PRICE = 100000, LARGEST_MIX = 1000, LARGEST_BOTTOM = 1000000;
    private static final long LARGEST_VALUE = 1000000000000L, LARGEST_SHARE_TOLD = 1000000000000L;
    private static final long LARGEST_SHARE = 1000000000000000L;

    private final Worth[] worths;
    private final Sheet[] sheets;
    private final Fall fall;
    private final LeastSets leastSets;
    private final Levels levels;
    private final Shares shares;
    private int things;
    private int worthCount;
    private int code;

    public FallingGains() {
        worths = new Worth[MOST_WORTHS];
        for (int w = 0; w < MOST_WORTHS; w++) worths[w] = new Worth();
        sheets = new Sheet[SHEETS];
        for (int s = 0; s < SHEETS; s++) sheets[s] = new Sheet();
        fall = new Fall();
        leastSets = new LeastSets();
        levels = new Levels();
        shares = new Shares();
    }

    public int things(int n) {
        if (!isWithin(n, 0, MOST_THINGS)) return OUTSIDE;
        int before = worthCount;
        things = n;
        worthCount = 0;
        shares.begin(n);
        return before;
    }

    // ---- sheets

    public int sheet(int s, int form, int n) {
        if (!isSheet(s)) return UNKNOWN;
        if (!isForm(form) || n > MOST_PLACES) return OUTSIDE;
        if (n < 0) return meet(PLACES_BELOW_0);
        code = 0;
        sheets[s].lay(form, n);
        return n;
    }

    public int tear(int s) {
        if (!isSheet(s)) return UNKNOWN;
        int before = sheets[s].there ? 1 : 0;
        sheets[s].there = false;
        return before;
    }

    public long put(int s, int form, int i, long v) {
        if (!isSheet(s)) return UNKNOWN;
        if (!isForm(form)) return OUTSIDE;
        Sheet sheet = sheets[s];
        if (!sheet.there) return meet(NO_ROW);
        if (sheet.form != form) return meet(OTHER_FORM);
        if (!sheet.hasPlace(i)) return meet(NO_PLACE);
        code = 0;
        sheet.numbers[i] = cutToForm(form, v);
        return sheet.numbers[i];
    }

    public long at(int s, int i) {
        if (!isSheet(s)) return UNKNOWN;
        Sheet sheet = sheets[s];
        if (!sheet.there) return meet(NO_ROW);
        if (!sheet.hasPlace(i)) return meet(NO_PLACE);
        code = 0;
        return sheet.numbers[i];
    }

    // ---- worths

    public int worth(int kind) {
        if (!isWithin(kind, TOLD, BENT)) return OUTSIDE;
        if (worthCount >= MOST_WORTHS) return FULL;
        return beginWorth(kind);
    }

    public int sum() {
        if (worthCount >= MOST_WORTHS) return FULL;
        return beginWorth(SUM);
    }

    public int part(int w, int set) {
        if (!isWorth(w) || !isSet(set)) return UNKNOWN;
        if (worthCount >= MOST_WORTHS) return FULL;
        int made = beginWorth(PART);
        worths[made].takePart(worths[w], set);
        worths[w].held = true;
        return made;
    }

    public int beyond(int w, int set) {
        if (!isWorth(w) || !isSet(set)) return UNKNOWN;
        if (worthCount >= MOST_WORTHS) return FULL;
        if (worths[w].isLargeBeyond(set)) return LARGE;
        int made = beginWorth(BEYOND);
        worths[made].takeBeyond(worths[w], set);
        worths[w].held = true;
        return made;
    }

    public int kind(int w) {
        if (!isWorth(w)) return UNKNOWN;
        return worths[w].kind;
    }

    public int count(int what, int w) {
        if (!isWithin(what, 0, 6)) return OUTSIDE;
        if (what == 0) return things;
        if (what == 1) return worthCount;
        if (!isWorth(w)) return UNKNOWN;
        Worth worth = worths[w];
        switch (what) {
            case 2: return worth.piecesAs(CUT);
            case 3: return worth.piecesAs(COVER);
            case 4: return worth.piecesAs(BENT);
            case 5: return worth.piecesAs(SUM);
            default: return worth.held ? 1 : 0;
        }
    }

    public int tell(int w, int set, int v) {
        if (!isWorth(w) || !isSet(set)) return UNKNOWN;
        if (set == 0 || !isInSize(v, LARGEST_TOLD)) return OUTSIDE;
        Worth worth = worths[w];
        if (worth.held) return NOT;
        if (worth.kind != TOLD) return meet(OTHER_KIND);
        code = 0;
        worth.values[set] = v;
        return 1;
    }

    public int read(int w, int s) {
        if (!isWorth(w) || !isSheet(s)) return UNKNOWN;
        Worth worth = worths[w];
        Sheet sheet = sheets[s];
        if (worth.held) return NOT;
        if (worth.kind != TOLD) return meet(OTHER_KIND);
        if (!sheet.there) return meet(NO_ROW);
        // Without THINGS there is no SET but 0, so that no place is asked for.
        if (worth.sets > 1 && worth.sets > sheet.places) return meet(NO_PLACE);
        if (!canBeTold(sheet.numbers, worth.sets)) return NOT;
        code = 0;
        for (int set = 1; set < worth.sets; set++) worth.values[set] = sheet.numbers[set];
        return 1;
    }

    public int line(int w, int a, int b, int width) {
        if (!isWorth(w) || !isThing(a) || !isThing(b)) return UNKNOWN;
        if (!isWithin(width, 0, LARGEST_WIDTH)) return OUTSIDE;
        Worth worth = worths[w];
        if (worth.held || a == b) return NOT;
        if (worth.kind != CUT) return meet(OTHER_KIND);
        if (worth.pieces >= MOST_LINES) return FULL;
        code = 0;
        worth.takeLine(a, b, width);
        return worth.pieces;
    }

    public int spot(int w, int weight, int set) {
        if (!isWorth(w) || !isSet(set)) return UNKNOWN;
        if (!isWithin(weight, 0, LARGEST_WEIGHT)) return OUTSIDE;
        Worth worth = worths[w];
        if (worth.held) return NOT;
        if (worth.kind != COVER) return meet(OTHER_KIND);
        if (worth.pieces >= MOST_SPOTS) return FULL;
        code = 0;
        worth.takeSpot(weight, set);
        return worth.pieces;
    }

    public int row(int w, int thing, int a, int b, int c, int d) {
        if (!isWorth(w) || !isThing(thing)) return UNKNOWN;
        if (!isInSize(a, LARGEST_IN_ROW) || !isInSize(b, LARGEST_IN_ROW)) return OUTSIDE;
        if (!isInSize(c, LARGEST_IN_ROW) || !isInSize(d, LARGEST_IN_ROW)) return OUTSIDE;
        Worth worth = worths[w];
        if (worth.held) return NOT;
        if (worth.kind != RANK) return meet(OTHER_KIND);
        code = 0;
        worth.rows.write(thing, a, b, c, d);
        worth.rankAnew(thing);
        return 1;
    }

    public int rise(int w, int v) {
        if (!isWorth(w)) return UNKNOWN;
        if (!isInSize(v, LARGEST_RISE)) return OUTSIDE;
        Worth worth = worths[w];
        if (worth.held) return NOT;
        if (worth.kind != BENT) return meet(OTHER_KIND);
        if (worth.pieces >= MOST_RISES) return FULL;
        if (worth.pieces > 0 && v > worth.rises[worth.pieces - 1]) return NOT;
        code = 0;
        worth.takeRise(v);
        return worth.pieces;
    }

    public int add(int w, int p, int factor) {
        if (!isWorth(w) || !isWorth(p)) return UNKNOWN;
        if (!isWithin(factor, 0, LARGEST_FACTOR)) return OUTSIDE;
        Worth worth = worths[w];
        if (worth.held || p >= w) return NOT;
        if (worth.kind != SUM) return meet(OTHER_KIND);
        if (worth.pieces >= MOST_SUMMED) return FULL;
        if (worth.isLargeWith(worths[p], factor)) return LARGE;
        code = 0;
        worth.takeWorth(worths[p], factor);
        worths[p].held = true;
        return worth.pieces;
    }

    public int price(int w, int thing, int v) {
        if (!isWorth(w) || !isThing(thing)) return UNKNOWN;
        if (!isInSize(v, LARGEST_PRICE)) return OUTSIDE;
        Worth worth = worths[w];
        if (worth.held) return NOT;
        if (worth.kind != SUM) return meet(OTHER_KIND);
        if (worth.isLargeWithPrice(thing, v)) return LARGE;
        code = 0;
        int before = worth.prices[thing];
        worth.takePrice(thing, v);
        return before;
    }

    public int code() {
        return code;
    }

    // ---- what is worth what

    public long value(int w, int set) {
        if (!isWorth(w) || !isSet(set)) return UNKNOWN;
        return worths[w].values[set];
    }

    public long adds(int w, int set, int thing) {
        if (!isWorth(w) || !isSet(set) || !isThing(thing)) return UNKNOWN;
        return worths[w].gain(set, thing);
    }

    public int falls(int w) {
        if (!isWorth(w)) return UNKNOWN;
        return fall.findBreak(worths[w]) ? 0 : 1;
    }

    public int why(int w, int what) {
        if (!isWorth(w)) return UNKNOWN;
        if (!isWithin(what, 0, 2)) return OUTSIDE;
        if (!fall.findBreak(worths[w])) return NONE;
        switch (what) {
            case 0: return fall.set;
            case 1: return fall.first;
            default: return fall.second;
        }
    }

    // ---- the least

    public long least(int w) {
        if (!isWorth(w)) return UNKNOWN;
        return worths[w].leastValue();
    }

    public int all(int w, int what) {
        if (!isWorth(w)) return UNKNOWN;
        if (!isWithin(what, 0, 3)) return OUTSIDE;
        leastSets.gather(worths[w]);
        switch (what) {
            case 0: return leastSets.howMany;
            case 1: return leastSets.inAll;
            case 2: return leastSets.inSome;
            default: return leastSets.isClosed(worths[w]) ? 1 : 0;
        }
    }

    public int one(int w, int i) {
        if (!isWorth(w)) return UNKNOWN;
        return worths[w].leastSet(i);
    }

    public long level(int w, int k) {
        if (!isWorth(w)) return UNKNOWN;
        if (!isWithin(k, 0, things)) return OUTSIDE;
        levels.gather(worths[w]);
        return levels.lows[k];
    }

    public int bends(int w) {
        if (!isWorth(w)) return UNKNOWN;
        levels.gather(worths[w]);
        levels.findTurns();
        return levels.bendCount;
    }

    public long bend(int w, int i, int what) {
        if (!isWorth(w)) return UNKNOWN;
        levels.gather(worths[w]);
        levels.findTurns();
        if (!isWithin(i, 0, levels.bendCount - 1)) return UNKNOWN;
        if (!isWithin(what, 0, 3)) return OUTSIDE;
        switch (what) {
            case 0: return levels.top(i);
            case 1: return levels.bottom(i);
            case 2: return levels.turns[i];
            default: return levels.turns[i + 1];
        }
    }

    // ---- orders, shares

    public int order(int t, int i) {
        if (!isThing(t)) return UNKNOWN;
        if (!isWithin(i, 0, things - 1)) return OUTSIDE;
        return shares.moveTo(t, i);
    }

    public int corner(int w) {
        if (!isWorth(w)) return UNKNOWN;
        shares.findCorner(worths[w]);
        shares.blend(0, 1);
        return 1;
    }

    public int mix(int w, int f, int g) {
        if (!isWorth(w)) return UNKNOWN;
        if (!isWithin(f, 0, LARGEST_MIX) || !isWithin(g, 0, LARGEST_MIX)) return OUTSIDE;
        if (f == 0 && g == 0) return OUTSIDE;
        shares.findCorner(worths[w]);
        if (shares.isLargeBlend(f, g)) return LARGE;
        shares.blend(f, g);
        return shares.bottom;
    }

    public long share(int t, long v) {
        if (!isThing(t)) return UNKNOWN;
        if (!isInSize(v, LARGEST_SHARE_TOLD)) return OUTSIDE;
        long before = shares.tops[t];
        shares.tops[t] = v;
        return before;
    }

    public long shareOf(int t) {
        if (t == NONE) return shares.bottom;
        if (!isThing(t)) return UNKNOWN;
        return shares.tops[t];
    }

    public int in(int w) {
        if (!isWorth(w)) return UNKNOWN;
        return shares.faultIn(worths[w]);
    }

    public int proves(int w) {
        if (!isWorth(w)) return UNKNOWN;
        return shares.isProof(worths[w]) ? 1 : 0;
    }

    // ---- greed

    public int greed(int w, int k) {
        if (!isWorth(w)) return UNKNOWN;
        if (!isWithin(k, 0, MOST_THINGS)) return OUTSIDE;
        return worths[w].greedySet(k);
    }

    public long best(int w, int k) {
        if (!isWorth(w)) return UNKNOWN;
        if (!isWithin(k, 0, MOST_THINGS)) return OUTSIDE;
        return worths[w].greatestValue(k);
    }

    // ---- what the calls share

    private boolean isThing(int t) {
        return isWithin(t, 0, things - 1);
    }

    private boolean isSet(int set) {
        return isWithin(set, 0, (1 << things) - 1);
    }

    private boolean isWorth(int w) {
        return isWithin(w, 0, worthCount - 1);
    }

    private static boolean isSheet(int s) {
        return isWithin(s, 0, SHEETS - 1);
    }

    private static boolean isForm(int form) {
        return isWithin(form, BYTES, LONGS);
    }

    private static boolean isWithin(long v, long low, long high) {
        return v >= low && v <= high;
    }

    private static boolean isInSize(long v, long size) {
        return isWithin(v, -size, size);
    }

    private static boolean hasThing(int set, int thing) {
        return (set >> thing & 1) == 1;
    }

    private static boolean canBeTold(long[] numbers, int sets) {
        for (int set = 1; set < sets; set++) {
            if (!isInSize(numbers[set], LARGEST_TOLD)) return false;
        }
        return true;
    }

    private static long cutToForm(int form, long v) {
        switch (form) {
            case BYTES: return (byte) v;
            case INTS: return (int) v;
            default: return v;
        }
    }

    /** Every call that meets a CODE above 0 answers 0. */
    private int meet(int met) {
        code = met;
        return 0;
    }

    private int beginWorth(int kind) {
        int made = worthCount;
        worths[made].begin(kind, things);
        worthCount++;
        return made;
    }

    private static final class Sheet {
        // One row of longs serves all FORMS, and is kept when the SHEET is torn, so that no call makes a new one.
        final long[] numbers = new long[MOST_PLACES];
        boolean there;
        int form;
        int places;

        void lay(int newForm, int n) {
            there = true;
            form = newForm;
            places = n;
            for (int i = 0; i < n; i++) numbers[i] = 0;
        }

        boolean hasPlace(int i) {
            return isWithin(i, 0, places - 1);
        }
    }

    /**
     * The VALUES of all SETS are kept told out: what a WORTH is made of is HELD and so never changes behind it,
     * and each call that changes a WORTH changes its own VALUES alone.
     */
    private static final class Worth {
        final long[] values = new long[MOST_SETS];
        final Rows rows = new Rows();
        final int[] rises = new int[MOST_RISES];
        final int[] prices = new int[MOST_THINGS];
        boolean held;
        int kind;
        int things;
        int sets;
        int pieces;

        void begin(int newKind, int newThings) {
            kind = newKind;
            things = newThings;
            sets = 1 << newThings;
            held = false;
            pieces = 0;
            for (int set = 0; set < sets; set++) values[set] = 0;
            rows.clear();
            for (int thing = 0; thing < MOST_THINGS; thing++) prices[thing] = 0;
        }

        /** How many pieces there are of the sort that a KIND is made of. */
        int piecesAs(int asked) {
            return kind == asked ? pieces : 0;
        }

        void takeLine(int from, int to, int width) {
            pieces++;
            for (int set = 0; set < sets; set++) {
                if (hasThing(set, from) && !hasThing(set, to)) values[set] += width;
            }
        }

        void takeSpot(int weight, int coverers) {
            pieces++;
            for (int set = 0; set < sets; set++) {
                if ((set & coverers) != 0) values[set] += weight;
            }
        }

        void rankAnew(int changed) {
            for (int set = 0; set < sets; set++) {
                if (hasThing(set, changed)) values[set] = rankOf(set);
            }
        }

        /** Of more rows than a row is long, one can always be left out; the smaller SETS have been ranked before. */
        private long rankOf(int set) {
            if (Integer.bitCount(set) <= ROW_LENGTH) return rows.rankOfFew(set);
            long rank = 0;
            for (int thing = 0; thing < things; thing++) {
                if (hasThing(set, thing)) rank = Math.max(rank, values[set ^ 1 << thing]);
            }
            return rank;
        }

        void takeRise(int v) {
            // The RISES that are not told yet follow the last one.
            for (int i = pieces; i < MOST_RISES; i++) rises[i] = v;
            pieces++;
            for (int set = 0; set < sets; set++) values[set] = sumOfRises(Integer.bitCount(set));
        }

        private long sumOfRises(int count) {
            long sum = 0;
            for (int i = 0; i < count && i < MOST_RISES; i++) sum += rises[i];
            return sum;
        }

        boolean isLargeWith(Worth other, int factor) {
            for (int set = 0; set < sets; set++) {
                if (!isInSize(values[set] + factor * other.values[set], LARGEST_VALUE)) return true;
            }
            return false;
        }

        void takeWorth(Worth other, int factor) {
            pieces++;
            for (int set = 0; set < sets; set++) values[set] += factor * other.values[set];
        }

        boolean isLargeWithPrice(int thing, int v) {
            long more = v - prices[thing];
            for (int set = 0; set < sets; set++) {
                if (hasThing(set, thing) && !isInSize(values[set] + more, LARGEST_VALUE)) return true;
            }
            return false;
        }

        void takePrice(int thing, int v) {
            long more = v - prices[thing];
            prices[thing] = v;
            for (int set = 0; set < sets; set++) {
                if (hasThing(set, thing)) values[set] += more;
            }
        }

        void takePart(Worth whole, int inner) {
            for (int set = 0; set < sets; set++) values[set] = whole.values[set & inner];
        }

        boolean isLargeBeyond(int ground) {
            for (int set = 0; set < sets; set++) {
                if (!isInSize(values[set | ground] - values[ground], LARGEST_VALUE)) return true;
            }
            return false;
        }

        void takeBeyond(Worth whole, int ground) {
            for (int set = 0; set < sets; set++) values[set] = whole.values[set | ground] - whole.values[ground];
        }

        long gain(int set, int thing) {
            return values[set | 1 << thing] - values[set];
        }

        long leastValue() {
            long low = 0;
            for (int set = 0; set < sets; set++) low = Math.min(low, values[set]);
            return low;
        }

        int leastSet(int i) {
            long low = leastValue();
            int seen = 0;
            for (int set = 0; set < sets; set++) {
                if (values[set] == low) {
                    if (seen == i) return set;
                    seen++;
                }
            }
            return NONE;
        }

        int greedySet(int most) {
            int set = 0;
            for (int taken = 0; taken < most; taken++) {
                int thing = greatestGain(set);
                if (thing == NONE) return set;
                set |= 1 << thing;
            }
            return set;
        }

        /** A THING of the SET itself adds 0, and so is never taken again. */
        private int greatestGain(int set) {
            int chosen = NONE;
            long most = 0;
            for (int thing = 0; thing < things; thing++) {
                if (gain(set, thing) > most) {
                    most = gain(set, thing);
                    chosen = thing;
                }
            }
            return chosen;
        }

        long greatestValue(int count) {
            long high = 0;
            for (int set = 0; set < sets; set++) {
                if (Integer.bitCount(set) <= count) high = Math.max(high, values[set]);
            }
            return high;
        }
    }

    /** The rows of a RANK. */
    private static final class Rows {
        final int[] numbers = new int[MOST_THINGS * ROW_LENGTH];
        final long[] work = new long[ROW_LENGTH * ROW_LENGTH];

        void clear() {
            for (int i = 0; i < MOST_THINGS * ROW_LENGTH; i++) numbers[i] = 0;
        }

        void write(int thing, int a, int b, int c, int d) {
            int start = thing * ROW_LENGTH;
            numbers[start] = a;
            numbers[start + 1] = b;
            numbers[start + 2] = c;
            numbers[start + 3] = d;
        }

        /** Of a SET of at most ROW_LENGTH THINGS, so that the work has room for their rows. */
        int rankOfFew(int set) {
            int height = copyRows(set);
            int rank = 0;
            for (int column = 0; column < ROW_LENGTH; column++) {
                int pivot = findPivot(column, rank, height);
                if (pivot != NONE) {
                    swapRows(rank, pivot);
                    clearBelow(column, rank, height);
                    rank++;
                }
            }
            return rank;
        }

        private int copyRows(int set) {
            int height = 0;
            for (int thing = 0; thing < MOST_THINGS && height < ROW_LENGTH; thing++) {
                if (hasThing(set, thing)) {
                    for (int column = 0; column < ROW_LENGTH; column++) {
                        work[height * ROW_LENGTH + column] = numbers[thing * ROW_LENGTH + column];
                    }
                    height++;
                }
            }
            return height;
        }

        private int findPivot(int column, int from, int height) {
            for (int r = from; r < height; r++) {
                if (work[r * ROW_LENGTH + column] != 0) return r;
            }
            return NONE;
        }

        private void swapRows(int upper, int lower) {
            for (int column = 0; column < ROW_LENGTH; column++) {
                long kept = work[upper * ROW_LENGTH + column];
                work[upper * ROW_LENGTH + column] = work[lower * ROW_LENGTH + column];
                work[lower * ROW_LENGTH + column] = kept;
            }
        }

        /**
         * Crosswise products keep the numbers whole. Each step makes them at most twice their own squares, and there
         * are three steps at most with rows below: from 99 on that stays under 2 * 10^18, which a long holds.
         */
        private void clearBelow(int column, int pivot, int height) {
            long head = work[pivot * ROW_LENGTH + column];
            for (int r = pivot + 1; r < height; r++) {
                long factor = work[r * ROW_LENGTH + column];
                for (int c = column; c < ROW_LENGTH; c++) {
                    int place = r * ROW_LENGTH + c;
                    work[place] = work[place] * head - work[pivot * ROW_LENGTH + c] * factor;
                }
            }
        }
    }

    /** The first SET with two THINGS for which a WORTH does not FALL. */
    private static final class Fall {
        int set;
        int first;
        int second;

        boolean findBreak(Worth worth) {
            for (int s = 0; s < worth.sets; s++) {
                for (int a = 0; a < worth.things; a++) {
                    if (!hasThing(s, a) && findSecond(worth, s, a)) return true;
                }
            }
            return false;
        }

        private boolean findSecond(Worth worth, int s, int a) {
            for (int b = a + 1; b < worth.things; b++) {
                // A THING that is in S adds 0 with a and without it, and so breaks nothing.
                if (worth.gain(s | 1 << a, b) > worth.gain(s, b)) {
                    set = s;
                    first = a;
                    second = b;
                    return true;
                }
            }
            return false;
        }
    }

    private static final class LeastSets {
        // For each THING what all those LEAST SETS have that have it.
        final int[] companions = new int[MOST_THINGS];
        int howMany;
        int inAll;
        int inSome;

        void gather(Worth worth) {
            long low = worth.leastValue();
            int last = worth.sets - 1;
            howMany = 0;
            inAll = last;
            inSome = 0;
            for (int thing = 0; thing < MOST_THINGS; thing++) companions[thing] = last;
            for (int set = 0; set <= last; set++) {
                if (worth.values[set] == low) take(set);
            }
        }

        private void take(int set) {
            howMany++;
            inAll &= set;
            inSome |= set;
            for (int thing = 0; thing < MOST_THINGS; thing++) {
                if (hasThing(set, thing)) companions[thing] &= set;
            }
        }

        /**
         * The SETS that have what all have, nothing that none has, and with each THING its companions are the least
         * family around the LEAST SETS that holds what two of its SETS both have, and have in all. So the LEAST SETS
         * do so themselves just when there are as many of them; to count is far less work than to try all pairs.
         */
        boolean isClosed(Worth worth) {
            int inFamily = 0;
            for (int set = 0; set < worth.sets; set++) {
                if ((inAll & ~set) == 0 && (set & ~inSome) == 0 && hasCompanions(set)) inFamily++;
            }
            return inFamily == howMany;
        }

        private boolean hasCompanions(int set) {
            for (int thing = 0; thing < MOST_THINGS; thing++) {
                if (hasThing(set, thing) && (companions[thing] & ~set) != 0) return false;
            }
            return true;
        }
    }

    private static final class Levels {
        final long[] lows = new long[MOST_THINGS + 1];
        // The COUNTS that are least for some PRICE: BEND i lies between turns i and i + 1.
        final int[] turns = new int[MOST_THINGS + 1];
        int things;
        int bendCount;

        void gather(Worth worth) {
            things = worth.things;
            for (int k = 0; k <= things; k++) lows[k] = worth.values[(1 << k) - 1];
            for (int set = 0; set < worth.sets; set++) {
                int k = Integer.bitCount(set);
                lows[k] = Math.min(lows[k], worth.values[set]);
            }
        }

        void findTurns() {
            bendCount = 0;
            turns[0] = 0;
            for (int step = 0; step < things && turns[bendCount] < things; step++) {
                turns[bendCount + 1] = nextTurn(turns[bendCount]);
                bendCount++;
            }
        }

        /** Of COUNTS that are met at the same PRICE the last: those between are least at the BEND alone. */
        private int nextTurn(int from) {
            int next = from + 1;
            for (int k = from + 2; k <= things; k++) {
                if ((lows[k] - lows[from]) * (next - from) <= (lows[next] - lows[from]) * (k - from)) next = k;
            }
            return next;
        }

        long top(int i) {
            return climb(i) / commonDivisor(i);
        }

        long bottom(int i) {
            return width(i) / commonDivisor(i);
        }

        private long climb(int i) {
            return lows[turns[i + 1]] - lows[turns[i]];
        }

        private int width(int i) {
            return turns[i + 1] - turns[i];
        }

        private int commonDivisor(int i) {
            for (int d = width(i); d > 1; d--) {
                if (width(i) % d == 0 && climb(i) % d == 0) return d;
            }
            return 1;
        }
    }

    /** THE ORDER and THE SHARES. */
    private static final class Shares {
        final int[] row = new int[MOST_THINGS];
        final long[] tops = new long[MOST_THINGS];
        final long[] cornerTops = new long[MOST_THINGS];
        int things;
        int bottom = 1;

        void begin(int newThings) {
            things = newThings;
            bottom = 1;
            for (int i = 0; i < things; i++) {
                row[i] = i;
                tops[i] = 0;
            }
        }

        int moveTo(int thing, int place) {
            int before = placeOf(thing);
            for (int i = before; i < place; i++) row[i] = row[i + 1];
            for (int i = before; i > place; i--) row[i] = row[i - 1];
            row[place] = thing;
            return before;
        }

        private int placeOf(int thing) {
            for (int i = 0; i < things; i++) {
                if (row[i] == thing) return i;
            }
            return 0;
        }

        void findCorner(Worth worth) {
            int ahead = 0;
            for (int i = 0; i < things; i++) {
                cornerTops[row[i]] = worth.gain(ahead, row[i]);
                ahead |= 1 << row[i];
            }
        }

        /** Shares are at most 10^15 in size and corners 2 * 10^12, so that times 1000 both stay within a long. */
        private long blended(int thing, int f, int g) {
            return tops[thing] * f + cornerTops[thing] * g;
        }

        boolean isLargeBlend(int f, int g) {
            if (bottom * f + g > LARGEST_BOTTOM) return true;
            for (int thing = 0; thing < things; thing++) {
                if (!isInSize(blended(thing, f, g), LARGEST_SHARE)) return true;
            }
            return false;
        }

        void blend(int f, int g) {
            bottom = bottom * f + g;
            for (int thing = 0; thing < things; thing++) tops[thing] = blended(thing, f, g);
        }

        int faultIn(Worth worth) {
            for (int set = 0; set < worth.sets; set++) {
                if (sumOf(set) > worth.values[set] * bottom) return set;
            }
            int last = worth.sets - 1;
            return sumOf(last) < worth.values[last] * bottom ? last : NONE;
        }

        private long sumOf(int set) {
            long sum = 0;
            for (int thing = 0; thing < things; thing++) {
                if (hasThing(set, thing)) sum += tops[thing];
            }
            return sum;
        }

        boolean isProof(Worth worth) {
            long below = 0;
            for (int thing = 0; thing < things; thing++) below += Math.min(tops[thing], 0);
            return faultIn(worth) == NONE && below == worth.leastValue() * bottom;
        }
    }
}
