/** The edges that the document names in promises 32 to 40: THE ORDER, THE SHARES, greed. */
public final class ShareEdges extends Check {
    private static final Scenes.Scene NEW = x -> { };

    private static void dueOrder(Real x, int... want) {
        for (int i = 0; i < want.length; i++) due(x, x.order(want[i], i), i);
    }

    private static void dueShares(Real x, long bottom, long... shares) {
        due(x, x.shareOf(NONE), bottom);
        for (int t = 0; t < shares.length; t++) due(x, x.shareOf(t), shares[t]);
    }

    private static void order() {
        says(32, "THING t comes to place i of THE ORDER, the others keep theirs among them: where it was.");
        Scenes.Scene four = x -> x.things(4);
        dueOrder(done(four, x -> x.order(0, 0), 0), 0, 1, 2, 3);
        dueOrder(done(four, x -> x.order(0, 1), 0), 1, 0, 2, 3);
        dueOrder(done(four, x -> x.order(0, 3), 0), 1, 2, 3, 0);
        dueOrder(done(four, x -> x.order(3, 0), 3), 3, 0, 1, 2);
        dueOrder(done(four, x -> x.order(3, 3), 3), 0, 1, 2, 3);
        dueOrder(done(four, x -> x.order(1, 2), 1), 0, 2, 1, 3);
        dueOrder(done(four, x -> x.order(2, 1), 2), 0, 2, 1, 3);
        dueOrder(done(then(four, x -> x.order(0, 3)), x -> x.order(0, 0), 3), 0, 1, 2, 3);
        dueOrder(done(then(four, x -> x.order(3, 0)), x -> x.order(1, 3), 2), 3, 0, 2, 1);
        dueOrder(done(x -> x.things(1), x -> x.order(0, 0), 0), 0);
        dueOrder(done(x -> x.things(10), x -> x.order(0, 9), 0), 1, 2, 3, 4, 5, 6, 7, 8, 9, 0);
        dueOrder(done(x -> x.things(10), x -> x.order(9, 0), 9), 9, 0, 1, 2, 3, 4, 5, 6, 7, 8);
        says(0, "THE ORDER is a row of all THINGS (0, 1, .. at first, and behind things()).");
        dueOrder(done(x -> x.things(3), x -> x.count(0, 0), 3), 0, 1, 2);
        dueOrder(done(then(four, x -> x.order(3, 0)), x -> x.things(4), 0), 0, 1, 2, 3);
        dueOrder(done(then(four, x -> x.order(3, 0)), x -> x.things(2), 0), 0, 1);
        says(32, "UNKNOWN, OUTSIDE.");
        for (int t : numbers(-1, 3, 10, MIN, MAX)) {
            for (int i : numbers(0, -1, 3)) refused(Scenes::free, x -> x.order(t, i), UNKNOWN);
        }
        for (int i : numbers(-1, 3, 10, MIN, MAX)) {
            for (int t = 0; t < 3; t++) {
                int thing = t;
                refused(Scenes::free, x -> x.order(thing, i), OUTSIDE);
            }
        }
        for (int i : numbers(0, 1, -1)) refused(NEW, x -> x.order(0, i), UNKNOWN);
        refused(x -> x.things(10), x -> x.order(10, 0), UNKNOWN);
        refused(x -> x.things(10), x -> x.order(0, 10), OUTSIDE);
    }

    private static void corner() {
        says(33, "THE SHARES become CORNER of WORTH w, THE BOTTOM 1: 1.");
        Scenes.Scene three = told(3, 1, 10, 12, 100, 104, 118, 128);
        dueShares(done(three, x -> x.corner(0), 1), 1, 1, 11, 116);
        dueShares(done(then(three, x -> x.order(2, 0)), x -> x.corner(0), 1), 1, 4, 24, 100);
        dueShares(done(then(three, x -> x.order(0, 2)), x -> x.corner(0), 1), 1, 10, 10, 108);
        dueShares(done(then(three, x -> x.mix(0, 7, 9)), x -> x.corner(0), 1), 1, 1, 11, 116);
        dueShares(done(Scenes::large, x -> x.corner(3), 1), 1, TRILLION, MILLION - TRILLION);
        dueShares(done(then(Scenes::large, x -> x.order(1, 0)), x -> x.corner(3), 1), 1, TRILLION + MILLION, -TRILLION);
        dueShares(done(told(0), x -> x.corner(0), 1), 1);
        dueShares(done(priced(0, 1, 2, 3, 4, 5, 6, 7, 8, 9), x -> x.corner(0), 1), 1, 0, 1, 2, 3, 4, 5, 6, 7, 8, 9);
        says(33, "UNKNOWN.");
        dueNoWorth((x, w) -> x.corner(w));
    }

    /** THE SHARES of these THINGS, by THE BOTTOM; WORTH 0 is worth 0 throughout, WORTH 1 has these PRICES. */
    private static Scenes.Scene shared(long[] shares, int bottom, int... prices) {
        return x -> {
            x.things(shares.length);
            x.worth(0);
            x.sum();
            for (int t = 0; t < prices.length; t++) x.price(1, t, prices[t]);
            if (bottom > 1000) {
                x.mix(0, 0, bottom / 1000);
                x.mix(0, 1000, 0);
            } else {
                x.mix(0, 0, bottom);
            }
            for (int t = 0; t < shares.length; t++) x.share(t, shares[t]);
        };
    }

    private static long[] shares(long... some) {
        return some;
    }

    private static void mix() {
        says(34, "THE SHARES become what they are times f, and CORNER of WORTH w times g (0 .. 1000 each, not both 0), "
            + "THE BOTTOM what it is times f, and g: THE BOTTOM.");
        Scenes.Scene two = shared(shares(7, -4), 3, 10, -20);
        dueShares(done(two, x -> x.mix(1, 0, 1), 1), 1, 10, -20);
        dueShares(done(two, x -> x.mix(1, 1, 0), 3), 3, 7, -4);
        dueShares(done(two, x -> x.mix(1, 1, 1), 4), 4, 17, -24);
        dueShares(done(two, x -> x.mix(1, 0, 1000), 1000), 1000, 10000, -20000);
        dueShares(done(two, x -> x.mix(1, 1000, 0), 3000), 3000, 7000, -4000);
        dueShares(done(two, x -> x.mix(1, 1000, 1000), 4000), 4000, 17000, -24000);
        dueShares(done(told(0), x -> x.mix(0, 1000, 1000), 2000), 2000);
        dueShares(done(priced(0, 1, 2, 3, 4, 5, 6, 7, 8, 9), x -> x.mix(0, 0, 2), 2), 2, 0, 2, 4, 6, 8, 10, 12, 14, 16, 18);
        // Of THINGS that there are no more, the shares are no more either.
        Scenes.Scene many = x -> {
            x.things(3);
            x.worth(0);
            x.share(2, TRILLION);
            x.mix(0, 1000, 0);
            x.things(2);
            x.sum();
        };
        dueShares(done(many, x -> x.mix(0, 1000, 1000), 2000), 2000, 0, 0);
        says(34, "UNKNOWN, OUTSIDE, LARGE: THE BOTTOM would be above 1000000, or a share above 10^15 in size.");
        for (int bad : numbers(-1, 1001, MIN, MAX)) {
            for (int good : numbers(0, 1, 1000, -1)) {
                refused(Scenes::free, x -> x.mix(0, bad, good), OUTSIDE);
                refused(Scenes::free, x -> x.mix(0, good, bad), OUTSIDE);
                dueNoWorth((x, w) -> x.mix(w, bad, good));
            }
        }
        refused(Scenes::free, x -> x.mix(0, 0, 0), OUTSIDE);
        dueNoWorth((x, w) -> x.mix(w, 0, 0));
        dueNoWorth((x, w) -> x.mix(w, 1, 1));
        largeBottom();
        largeShare(1);
        largeShare(-1);
        refused(Scenes::largeBehindFree, x -> x.mix(5, 2, 2), LARGE);
        refused(Scenes::large, x -> x.mix(6, 2, 2), UNKNOWN);
        refused(Scenes::large, x -> x.mix(0, 1001, 2), OUTSIDE);
        refused(Scenes::large, x -> x.mix(0, 2, -1), OUTSIDE);
        refused(Scenes::large, x -> x.mix(0, 0, 0), OUTSIDE);
    }

    private static void largeBottom() {
        Scenes.Scene thousand = shared(shares(0, 0), 1000);
        due(thousand, 1000, 0, 1000000);
        due(thousand, 999, 1000, 1000000);
        refused(thousand, x -> x.mix(0, 1000, 1), LARGE);
        refused(thousand, x -> x.mix(1, 1000, 1000), LARGE);
        due(shared(shares(0, 0), 999), 1000, 1000, 1000000);
        Scenes.Scene most = shared(shares(5, -5), 1000000);
        due(most, 1, 0, 1000000);
        due(most, 0, 1, 1);
        for (int f : numbers(1, 2, 1000)) {
            for (int g : numbers(1, 1000)) refused(most, x -> x.mix(0, f, g), LARGE);
        }
        refused(most, x -> x.mix(0, 2, 0), LARGE);
        refused(most, x -> x.mix(0, 1000, 0), LARGE);
        refused(most, x -> x.mix(2, 1, 1), UNKNOWN);
        refused(most, x -> x.mix(0, 1001, 1), OUTSIDE);
        // Without THINGS there is THE BOTTOM still.
        Scenes.Scene none = then(told(0), x -> {
            x.mix(0, 0, 1000);
            x.mix(0, 1000, 0);
        });
        due(none, 1, 0, 1000000);
        refused(none, x -> x.mix(0, 1, 1), LARGE);
    }

    private static void due(Scenes.Scene scene, int f, int g, int bottom) {
        Real x = done(scene, y -> y.mix(0, f, g), bottom);
        due(x, x.shareOf(NONE), bottom);
    }

    /** A share of 10^12 by 1 times 1000 is just not too much; with a price it may be, for any of the THINGS alone. */
    private static void largeShare(int sign) {
        long most = sign * TRILLION;
        for (int t = 0; t < 3; t++) {
            long[] at = {0, 0, 0};
            at[t] = most;
            int[] one = {0, 0, 0};
            one[t] = sign;
            int[] less = {0, 0, 0};
            less[t] = -sign;
            int thing = t;
            Real x = done(shared(at, 1, one), y -> y.mix(1, 1000, 0), 1000);
            due(x, x.shareOf(thing), 1000 * most);
            Real z = done(shared(at, 1, less), y -> y.mix(1, 1000, 1), 1001);
            due(z, z.shareOf(thing), 1000 * most - sign);
            refused(shared(at, 1, one), y -> y.mix(1, 1000, 1), LARGE);
            refused(shared(at, 1, one), y -> y.mix(1, 1000, 1000), LARGE);
            Scenes.Scene atMost = then(shared(at, 1, one), y -> y.mix(1, 1000, 0));
            done(atMost, y -> y.mix(1, 1, 0), 1000);
            done(atMost, y -> y.mix(0, 1, 1), 1001);
            refused(atMost, y -> y.mix(1, 1, 1), LARGE);
            refused(atMost, y -> y.mix(0, 2, 0), LARGE);
            refused(atMost, y -> y.mix(0, 1000, 0), LARGE);
            refused(atMost, y -> y.mix(2, 2, 0), UNKNOWN);
            refused(atMost, y -> y.mix(0, 2, 1001), OUTSIDE);
        }
    }

    private static void share() {
        says(35, "The share of a THING becomes v (-10^12 .. 10^12): what it was.");
        for (int t = 0; t < 3; t++) {
            int thing = t;
            for (long v : new long[] {-TRILLION, 1 - TRILLION, 0, TRILLION - 1, TRILLION}) {
                Real x = done(shared(shares(7, 8, 9), 5), y -> y.share(thing, v), 7 + t);
                dueShares(x, 5, thing == 0 ? v : 7, thing == 1 ? v : 8, thing == 2 ? v : 9);
            }
        }
        done(Scenes::large, x -> x.share(0, 1), 1000 * TRILLION);
        done(Scenes::large, x -> x.share(1, 1), -1000 * TRILLION);
        done(x -> x.things(10), x -> x.share(9, 1), 0);
        says(35, "UNKNOWN, OUTSIDE.");
        for (long v : new long[] {-TRILLION - 1, TRILLION + 1, Long.MIN_VALUE, Long.MAX_VALUE}) {
            refused(Scenes::free, x -> x.share(0, v), OUTSIDE);
            refused(Scenes::free, x -> x.share(2, v), OUTSIDE);
            for (int t : numbers(-1, 3, MIN, MAX)) refused(Scenes::free, x -> x.share(t, v), UNKNOWN);
        }
        for (int t : numbers(-1, 3, 10, MIN, MAX)) refused(Scenes::free, x -> x.share(t, 1), UNKNOWN);
        refused(NEW, x -> x.share(0, 1), UNKNOWN);
        refused(x -> x.things(10), x -> x.share(10, 1), UNKNOWN);
        says(35, "(What is told may be as a refusal is.)");
        for (int v : numbers(UNKNOWN, OUTSIDE, NONE)) {
            Real x = done(shared(shares(v), 1), y -> y.share(0, 6), v);
            due(x, x.shareOf(0), 6);
        }
    }

    private static void shareOf() {
        says(36, "Of THE SHARES: the share of a THING; with t = NONE THE BOTTOM.");
        asks(NEW, x -> x.shareOf(NONE), 1);
        asks(x -> x.things(10), x -> x.shareOf(9), 0);
        asks(shared(shares(7, -8), 1000000), x -> x.shareOf(NONE), 1000000);
        asks(shared(shares(7, -8), 1000000), x -> x.shareOf(0), 7);
        asks(shared(shares(7, -8), 1000000), x -> x.shareOf(1), -8);
        asks(Scenes::large, x -> x.shareOf(0), 1000 * TRILLION);
        says(36, "UNKNOWN.");
        for (int t : numbers(-2, 3, 10, MIN, MAX)) refused(Scenes::free, x -> x.shareOf(t), UNKNOWN);
        refused(NEW, x -> x.shareOf(0), UNKNOWN);
        refused(x -> x.things(10), x -> x.shareOf(10), UNKNOWN);
        says(36, "(What is told may be as a refusal is.)");
        for (int v : numbers(UNKNOWN, OUTSIDE, NONE)) asks(shared(shares(v), 1), x -> x.shareOf(0), v);
    }

    /** WORTH 0 is TOLD with these VALUES, and these are THE SHARES by THE BOTTOM. */
    private static Scenes.Scene against(int[] values, int bottom, long... shares) {
        return then(told(shares.length, values), x -> {
            if (bottom > 1) x.mix(0, 0, bottom);
            for (int t = 0; t < shares.length; t++) x.share(t, shares[t]);
        });
    }

    private static void in() {
        says(37, "Whether THE SHARES are IN WORTH w: NONE; else the least SET whose sum is above; else ALL, if that sum is below.");
        int[] values = {5, 4, 6};
        asks(told(0), x -> x.in(0), NONE);
        asks(against(values, 1, 2, 4), x -> x.in(0), NONE);
        asks(against(values, 1, 5, 1), x -> x.in(0), NONE);
        asks(against(values, 1, 6, 0), x -> x.in(0), 1);
        asks(against(values, 1, 1, 5), x -> x.in(0), 2);
        asks(against(values, 1, 6, 5), x -> x.in(0), 1);
        asks(against(values, 1, 3, 4), x -> x.in(0), 3);
        asks(against(values, 1, 1, 4), x -> x.in(0), 3);
        asks(against(values, 1, 6, -1), x -> x.in(0), 1);
        asks(against(values, 1, -100, 5), x -> x.in(0), 2);
        asks(against(values, 3, 6, 12), x -> x.in(0), NONE);
        asks(against(values, 3, 15, 3), x -> x.in(0), NONE);
        asks(against(values, 3, 16, 2), x -> x.in(0), 1);
        asks(against(values, 3, 7, 12), x -> x.in(0), 3);
        asks(against(values, 3, 5, 12), x -> x.in(0), 3);
        Scenes.Scene ten = then(ten(1023, -7), x -> x.share(9, -7));
        asks(ten, x -> x.in(0), NONE);
        asks(then(ten, x -> x.share(9, -6)), x -> x.in(0), 1023);
        asks(then(ten, x -> x.share(9, -8)), x -> x.in(0), 1023);
        asks(then(ten, x -> x.share(9, 1)), x -> x.in(0), 512);
        // 10^12 times THE BOTTOM of 10^6 is far above what SHARES can be, and does not wrap around.
        Scenes.Scene far = then(Scenes::large, x -> {
            x.corner(0);
            x.share(0, 0);
            x.share(1, 0);
            x.mix(0, 1000, 0);
            x.mix(0, 1000, 0);
        });
        asks(far, x -> x.in(3), 2);
        asks(then(far, x -> x.share(1, -TRILLION)), x -> x.in(3), 2);
        asks(then(far, x -> x.part(3, 1)), x -> x.in(6), 3);
        says(37, "UNKNOWN.");
        dueNoWorth((x, w) -> x.in(w));
    }

    private static void proves() {
        says(38, "Whether THE SHARES PROVE THE LEAST of WORTH w: 1, 0.");
        asks(told(0), x -> x.proves(0), 1);
        int[] values = {4, 3, -2};
        asks(against(values, 1, -1, -1), x -> x.proves(0), 1);
        asks(against(values, 1, 0, -2), x -> x.proves(0), 1);
        asks(against(values, 1, 1, -3), x -> x.proves(0), 0);
        asks(against(values, 1, -2, -1), x -> x.proves(0), 0);
        asks(against(values, 1, -1, 0), x -> x.proves(0), 0);
        asks(against(values, 3, -3, -3), x -> x.proves(0), 1);
        asks(against(values, 3, -5, -1), x -> x.proves(0), 1);
        asks(against(values, 3, -5, -2), x -> x.proves(0), 0);
        asks(against(numbers(-2, 3, 1), 1, -2, 3), x -> x.proves(0), 1);
        asks(against(numbers(-2, 3, 1), 1, -3, 4), x -> x.proves(0), 0);
        asks(against(numbers(-2, 3, 2), 1, -2, 4), x -> x.proves(0), 0);
        asks(against(numbers(2, 3, 5), 1, 2, 3), x -> x.proves(0), 1);
        asks(against(numbers(2, 3, 5), 1, 0, 0), x -> x.proves(0), 0);
        asks(against(numbers(0, 0, 0), 1, 0, 0), x -> x.proves(0), 1);
        asks(against(numbers(0, 0, 0), 1, 1, -1), x -> x.proves(0), 0);
        asks(then(ten(1023, -7), x -> x.share(9, -7)), x -> x.proves(0), 1);
        asks(then(ten(1023, -7), x -> x.share(9, -8)), x -> x.proves(0), 0);
        asks(then(Scenes::large, x -> x.corner(3)), x -> x.proves(3), 0);
        says(38, "UNKNOWN.");
        dueNoWorth((x, w) -> x.proves(w));
    }

    private static void dueGreed(Scenes.Scene scene, int... sets) {
        for (int k = 0; k <= 10; k++) {
            int count = k;
            asks(scene, x -> x.greed(0, count), sets[Math.min(k, sets.length - 1)]);
        }
    }

    private static void greed() {
        says(39, "What GREED comes to, up to k THINGS (0 .. 10): the SET.");
        dueGreed(told(0), 0);
        dueGreed(told(1, 1), 0, 1);
        dueGreed(priced(1, 1, 1, 1, 1, 1, 1, 1, 1, 1), 0, 1, 3, 7, 15, 31, 63, 127, 255, 511, 1023);
        dueGreed(priced(1, 2, 3, 4, 5, 6, 7, 8, 9, 10), 0, 512, 768, 896, 960, 992, 1008, 1016, 1020, 1022, 1023);
        says(0, "the THING not there yet that adds most (of these the least), as long as that is above 0");
        dueGreed(told(1, 0), 0);
        dueGreed(told(1, -1), 0);
        dueGreed(told(2, 0, -1, 9), 0);
        dueGreed(told(2, 1, 1, 1), 0, 1);
        dueGreed(told(2, 1, 1, 2), 0, 1, 3);
        dueGreed(told(2, 1, 2, 9), 0, 2, 3);
        dueGreed(told(3, 4, 4, 9, 3, 5, 9, 8), 0, 1, 3);
        dueGreed(told(3, 3, 4, 4, 4, 5, 5, 9), 0, 2, 6, 7);
        dueGreed(ten(1, 1), 0, 1);
        dueGreed(ten(512, 1), 0, 512);
        asks(Scenes::large, x -> x.greed(3, 10), 1);
        says(39, "UNKNOWN, OUTSIDE.");
        for (int k : numbers(-1, 11, MIN, MAX)) {
            refused(Scenes::free, x -> x.greed(0, k), OUTSIDE);
            refused(told(10), x -> x.greed(0, k), OUTSIDE);
            dueNoWorth((x, w) -> x.greed(w, k));
        }
        dueNoWorth((x, w) -> x.greed(w, 0));
    }

    private static void dueBest(Scenes.Scene scene, long... values) {
        for (int k = 0; k <= 10; k++) {
            int count = k;
            asks(scene, x -> x.best(0, count), values[Math.min(k, values.length - 1)]);
        }
    }

    private static void best() {
        says(40, "The greatest VALUE over all SETS of at most k THINGS (0 .. 10).");
        dueBest(told(0), 0);
        dueBest(told(1, -1), 0);
        dueBest(told(1, 1), 0, 1);
        dueBest(told(2, -5, -3, -2), 0);
        dueBest(told(3, -4, 4, 9, 3, 5, -9, 12), 0, 4, 9, 12);
        dueBest(told(3, 4, -4, -9, 3, 9, 5, 8), 0, 4, 9);
        dueBest(ten(1023, 6), 0, 0, 0, 0, 0, 0, 0, 0, 0, 0, 6);
        dueBest(ten(1022, 6), 0, 0, 0, 0, 0, 0, 0, 0, 0, 6);
        asks(Scenes::large, x -> x.best(3, 1), TRILLION);
        says(40, "UNKNOWN, OUTSIDE.");
        for (int k : numbers(-1, 11, MIN, MAX)) {
            refused(Scenes::free, x -> x.best(0, k), OUTSIDE);
            refused(told(10), x -> x.best(0, k), OUTSIDE);
            dueNoWorth((x, w) -> x.best(w, k));
        }
        dueNoWorth((x, w) -> x.best(w, 0));
    }

    public static void main(String[] args) {
        order();
        corner();
        mix();
        share();
        shareOf();
        in();
        proves();
        greed();
        best();
        end(32, 40);
    }
}
