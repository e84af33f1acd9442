/** The edges that the document names in promises 13 to 21: what WORTHS are told, and CODE. */
public final class ChangeEdges extends Check {
    private static final int[] NO_WORTH = {-1, 9, 12, MIN, MAX};
    private static final int[] NO_THING = {-1, 3, 10, MIN, MAX};
    private static final int[] NO_SET = {-1, 8, 1023, MIN, MAX};

    /** A call on a WORTH of a scene whose KIND is another one: with CODE 5, or NOT where the WORTH is HELD. */
    private static void dueOtherKinds(int kind, CallOn call) {
        for (int w : numbers(0, 1, 2, 3, 4, 5, 7, 8)) {
            if (w != kind) coded(Scenes::free, x -> call.on(x, w), 5);
        }
        for (int w = 0; w < 9; w++) {
            int number = w;
            refused(Scenes::held, x -> call.on(x, number), NOT);
        }
    }

    private static void tell() {
        says(13, "TOLD: the VALUE of a SET becomes v (-1000000 .. 1000000): 1.");
        for (int v : numbers(-1000000, -999999, 0, 999999, 1000000)) {
            for (int set : numbers(1, 6, 7)) {
                Real x = taken(Scenes::free, y -> y.tell(0, set, v), 1);
                due(x, x.value(0, set), v);
                due(x, x.value(0, 2), 4);
                due(x, x.value(0, 0), 0);
            }
        }
        Real ten = taken(told(10), x -> x.tell(0, 1023, 5), 1);
        due(ten, ten.value(0, 1023), 5);
        says(13, "UNKNOWN, OUTSIDE (also SET 0), NOT (HELD).");
        for (int w : NO_WORTH) {
            refused(Scenes::free, x -> x.tell(w, 1, 5), UNKNOWN);
            refused(Scenes::free, x -> x.tell(w, 0, 5), UNKNOWN);
            refused(Scenes::free, x -> x.tell(w, 1, 1000001), UNKNOWN);
        }
        for (int set : NO_SET) {
            refused(Scenes::free, x -> x.tell(0, set, 5), UNKNOWN);
            refused(Scenes::free, x -> x.tell(0, set, -1000001), UNKNOWN);
            refused(Scenes::free, x -> x.tell(6, set, 5), UNKNOWN);
            refused(Scenes::free, x -> x.tell(1, set, 5), UNKNOWN);
        }
        refused(told(10), x -> x.tell(0, 1024, 5), UNKNOWN);
        refused(told(0), x -> x.tell(0, 1, 5), UNKNOWN);
        for (int v : numbers(-1000001, 1000001, MIN, MAX)) {
            refused(Scenes::free, x -> x.tell(0, 1, v), OUTSIDE);
            refused(Scenes::free, x -> x.tell(0, 0, v), OUTSIDE);
            refused(Scenes::free, x -> x.tell(6, 1, v), OUTSIDE);
            refused(Scenes::free, x -> x.tell(1, 1, v), OUTSIDE);
        }
        for (int w : numbers(0, 1, 6, 7)) {
            refused(Scenes::free, x -> x.tell(w, 0, 0), OUTSIDE);
            refused(Scenes::free, x -> x.tell(w, 0, 5), OUTSIDE);
        }
        refused(told(0), x -> x.tell(0, 0, 0), OUTSIDE);
        refused(Scenes::free, x -> x.tell(6, 1, 5), NOT);
        says(13, "CODE 5.");
        dueOtherKinds(0, (x, w) -> x.tell(w, 1, 5));
    }

    private static void read() {
        says(14, "TOLD: the VALUE of each SET but 0 becomes the number at its place of SHEET s: 1.");
        Real x = taken(Scenes::free, y -> y.read(0, 1), 1);
        long[] want = {0, MILLION, 0, 0, 0, 0, 0, -MILLION};
        for (int set = 0; set < 8; set++) due(x, x.value(0, set), want[set]);
        for (int form = 0; form < 3; form++) {
            int told = form;
            Real y = taken(then(Scenes::free, z -> {
                z.sheet(3, told, 8);
                z.put(3, told, 7, -100);
            }), z -> z.read(0, 3), 1);
            due(y, y.value(0, 7), -100);
            due(y, y.value(0, 1), 0);
            due(y, y.at(3, 7), -100);
        }
        says(14, "UNKNOWN, NOT (HELD; behind CODES also: a number is not within -1000000 .. 1000000).");
        for (int w : NO_WORTH) {
            for (int s : numbers(1, 3, 4)) refused(Scenes::free, y -> y.read(w, s), UNKNOWN);
        }
        for (int s : numbers(-1, 4, MIN, MAX)) {
            for (int w : numbers(0, 1, 6, 7)) refused(Scenes::free, y -> y.read(w, s), UNKNOWN);
        }
        for (int s = 0; s < 4; s++) {
            int number = s;
            refused(Scenes::free, y -> y.read(6, number), NOT);
        }
        numbersToRead();
        says(14, "CODES 5, 1, 3, in this order.");
        for (int s = 0; s < 4; s++) {
            int number = s;
            dueOtherKinds(0, (y, w) -> y.read(w, number));
        }
        coded(Scenes::free, y -> y.read(0, 3), 1);
        coded(Scenes::free, y -> y.read(0, 0), 3);
        coded(then(Scenes::free, y -> y.sheet(0, 2, 0)), y -> y.read(0, 0), 3);
        coded(then(Scenes::free, y -> {
            y.sheet(0, 2, 7);
            for (int i = 0; i < 7; i++) y.put(0, 2, i, 1000001);
        }), y -> y.read(0, 0), 3);
        coded(then(Scenes::free, y -> y.tear(1)), y -> y.read(0, 1), 1);
        coded(then(told(1), y -> y.sheet(1, 1, 1)), y -> y.read(0, 1), 3);
        coded(then(told(1), y -> y.sheet(1, 1, 0)), y -> y.read(0, 1), 3);
        taken(then(told(1), y -> y.sheet(1, 1, 2)), y -> y.read(0, 1), 1);
        readTen();
        readWithoutThings();
    }

    /** The last numbers that can be read, and the first that cannot, at the first place and at the last one. */
    private static void numbersToRead() {
        for (int i : numbers(1, 4, 7)) {
            for (long v : new long[] {-MILLION, MILLION}) {
                Real x = taken(withNumber(i, v), y -> y.read(0, 2), 1);
                due(x, x.value(0, i), v);
            }
            for (long v : new long[] {-MILLION - 1, MILLION + 1, 1L << 32, Long.MIN_VALUE, Long.MAX_VALUE}) {
                refused(withNumber(i, v), y -> y.read(0, 2), NOT);
                coded(withNumber(i, v), y -> y.read(1, 2), 5);
                refused(withNumber(i, v), y -> y.read(6, 2), NOT);
            }
        }
        refused(Scenes::free, y -> y.read(0, 2), NOT);
        // The places of SET 0, and behind ALL, are not asked for.
        for (int i : numbers(0, 8)) {
            Real x = taken(withNumber(i, Long.MIN_VALUE), y -> y.read(0, 2), 1);
            due(x, x.value(0, 0), 0);
        }
    }

    private static Scenes.Scene withNumber(int place, long v) {
        return then(Scenes::free, x -> {
            x.sheet(2, 2, 9);
            x.put(2, 2, place, v);
        });
    }

    private static void readTen() {
        Real x = taken(then(told(10), y -> {
            y.sheet(2, 0, 1024);
            y.put(2, 0, 1023, 77);
        }), y -> y.read(0, 2), 1);
        due(x, x.value(0, 1023), 77);
        coded(then(told(10), y -> y.sheet(2, 0, 1023)), y -> y.read(0, 2), 3);
        taken(then(told(10), y -> y.sheet(2, 0, 1100)), y -> y.read(0, 2), 1);
        refused(then(told(10), y -> {
            y.sheet(2, 1, 1024);
            y.put(2, 1, 1023, 1000001);
        }), y -> y.read(0, 2), NOT);
    }

    /** There is no SET but 0 then, so no place is asked for; but a row is, and a WORTH that is TOLD and not HELD. */
    private static void readWithoutThings() {
        says(14, "each SET but 0");
        Scenes.Scene none = then(told(0), x -> {
            x.sheet(0, 0, 0);
            x.sheet(1, 2, 1);
            x.put(1, 2, 0, 1000001);
            x.worth(1);
            x.worth(0);
            x.part(2, 0);
        });
        for (int s = 0; s < 2; s++) {
            int number = s;
            Real x = taken(none, y -> y.read(0, number), 1);
            due(x, x.value(0, 0), 0);
            coded(none, y -> y.read(1, number), 5);
            refused(none, y -> y.read(2, number), NOT);
        }
        coded(none, y -> y.read(0, 2), 1);
        coded(none, y -> y.read(1, 2), 5);
        refused(none, y -> y.read(2, 2), NOT);
        refused(none, y -> y.read(0, 4), UNKNOWN);
    }

    private static void line() {
        says(15, "CUT: a LINE more from a THING to another one, of a width (0 .. 10000): how many.");
        for (int width : numbers(0, 1, 9999, 10000)) {
            Real x = taken(Scenes::free, y -> y.line(1, 2, 1, width), 3);
            due(x, x.value(1, 4), 3 + width);
            due(x, x.value(1, 6), 3);
            due(x, x.count(2, 1), 3);
        }
        taken(Scenes::free, y -> y.line(1, 0, 2, 1), 3);
        says(15, "UNKNOWN, OUTSIDE, NOT (HELD; a is b), FULL (24).");
        for (int w : NO_WORTH) {
            refused(Scenes::free, x -> x.line(w, 0, 1, 5), UNKNOWN);
            refused(Scenes::free, x -> x.line(w, 0, 0, -1), UNKNOWN);
        }
        for (int t : NO_THING) {
            for (int w : numbers(0, 1)) {
                refused(Scenes::full, x -> x.line(w, t, 0, 5), UNKNOWN);
                refused(Scenes::full, x -> x.line(w, 0, t, 5), UNKNOWN);
                refused(Scenes::held, x -> x.line(w, t, 0, 5), UNKNOWN);
                refused(Scenes::held, x -> x.line(w, 0, t, 5), UNKNOWN);
                refused(Scenes::free, x -> x.line(w, t, t, 5), UNKNOWN);
                refused(Scenes::free, x -> x.line(w, t, 0, -1), UNKNOWN);
                refused(Scenes::free, x -> x.line(w, 0, t, 10001), UNKNOWN);
            }
        }
        for (int width : numbers(-1, 10001, MIN, MAX)) {
            for (int w : numbers(0, 1)) {
                refused(Scenes::free, x -> x.line(w, 0, 1, width), OUTSIDE);
                refused(Scenes::free, x -> x.line(w, 1, 1, width), OUTSIDE);
                refused(Scenes::held, x -> x.line(w, 0, 1, width), OUTSIDE);
                refused(Scenes::full, x -> x.line(w, 0, 1, width), OUTSIDE);
            }
        }
        for (int t = 0; t < 3; t++) {
            int thing = t;
            for (int w = 0; w < 9; w++) {
                int number = w;
                refused(Scenes::free, x -> x.line(number, thing, thing, 5), NOT);
            }
            refused(Scenes::full, x -> x.line(1, thing, thing, 5), NOT);
        }
        refused(Scenes::fullAndHeld, x -> x.line(1, 0, 1, 5), NOT);
        for (int width : numbers(0, 5, 10000)) refused(Scenes::full, x -> x.line(1, 0, 1, width), FULL);
        Scenes.Scene almost = then(Scenes::free, x -> {
            for (int i = 0; i < 21; i++) x.line(1, 1, 2, 1);
        });
        taken(almost, x -> x.line(1, 1, 2, 1), 24);
        refused(then(almost, x -> x.line(1, 1, 2, 1)), x -> x.line(1, 1, 2, 1), FULL);
        says(15, "CODE 5.");
        dueOtherKinds(1, (x, w) -> x.line(w, 0, 1, 5));
        coded(Scenes::full, x -> x.line(2, 0, 1, 5), 5);
    }

    private static void spot() {
        says(16, "COVER: a SPOT more of a weight (0 .. 10000), which the THINGS of a SET cover: how many.");
        for (int weight : numbers(0, 1, 9999, 10000)) {
            Real x = taken(Scenes::free, y -> y.spot(2, weight, 4), 3);
            due(x, x.value(2, 4), 2 + weight);
            due(x, x.value(2, 2), 2);
            due(x, x.count(3, 2), 3);
        }
        Real none = taken(Scenes::free, y -> y.spot(2, 10000, 0), 3);
        due(none, none.value(2, 7), 8);
        due(none, none.value(2, 0), 0);
        Real all = taken(Scenes::free, y -> y.spot(2, 10000, 7), 3);
        for (int t = 0; t < 3; t++) due(all, all.adds(2, 0, t), t == 0 ? 10008 : 10002);
        says(16, "UNKNOWN, OUTSIDE, NOT (HELD), FULL (24).");
        for (int w : NO_WORTH) {
            refused(Scenes::free, x -> x.spot(w, 5, 1), UNKNOWN);
            refused(Scenes::free, x -> x.spot(w, -1, 1), UNKNOWN);
        }
        for (int set : NO_SET) {
            for (int w : numbers(0, 2)) {
                refused(Scenes::free, x -> x.spot(w, 5, set), UNKNOWN);
                refused(Scenes::free, x -> x.spot(w, 10001, set), UNKNOWN);
                refused(Scenes::full, x -> x.spot(w, 5, set), UNKNOWN);
                refused(Scenes::held, x -> x.spot(w, 5, set), UNKNOWN);
            }
        }
        for (int weight : numbers(-1, 10001, MIN, MAX)) {
            for (int w : numbers(0, 2)) {
                refused(Scenes::free, x -> x.spot(w, weight, 1), OUTSIDE);
                refused(Scenes::full, x -> x.spot(w, weight, 1), OUTSIDE);
                refused(Scenes::held, x -> x.spot(w, weight, 1), OUTSIDE);
            }
        }
        refused(Scenes::fullAndHeld, x -> x.spot(2, 5, 1), NOT);
        for (int weight : numbers(0, 5, 10000)) refused(Scenes::full, x -> x.spot(2, weight, 7), FULL);
        Scenes.Scene almost = then(Scenes::free, x -> {
            for (int i = 0; i < 21; i++) x.spot(2, 1, 1);
        });
        taken(almost, x -> x.spot(2, 1, 1), 24);
        refused(then(almost, x -> x.spot(2, 1, 1)), x -> x.spot(2, 1, 1), FULL);
        says(16, "CODE 5.");
        dueOtherKinds(2, (x, w) -> x.spot(w, 5, 1));
        coded(Scenes::full, x -> x.spot(1, 5, 1), 5);
    }

    private static long rowWith(Bench x, int w, int thing, int place, int v) {
        return x.row(w, thing, place == 0 ? v : 0, place == 1 ? v : 0, place == 2 ? v : 0, place == 3 ? v : 0);
    }

    private static void row() {
        says(17, "RANK: the row of a THING becomes a, b, c, d (each -99 .. 99): 1.");
        for (int i = 0; i < 4; i++) {
            int place = i;
            for (int v : numbers(-99, 99)) {
                for (int t = 0; t < 3; t++) {
                    int thing = t;
                    Real x = taken(Scenes::free, y -> rowWith(y, 3, thing, place, v), 1);
                    due(x, x.value(3, 1 << t), 1);
                    due(x, x.value(3, 7), t == 2 ? 2 : 3);
                }
            }
        }
        Real zero = taken(Scenes::free, y -> y.row(3, 0, 0, 0, 0, 0), 1);
        due(zero, zero.value(3, 1), 0);
        says(17, "UNKNOWN, OUTSIDE, NOT (HELD).");
        for (int i = 0; i < 4; i++) {
            int place = i;
            for (int v : numbers(-100, 100, MIN, MAX)) {
                refused(Scenes::free, y -> rowWith(y, 3, 1, place, v), OUTSIDE);
                refused(Scenes::free, y -> rowWith(y, 0, 1, place, v), OUTSIDE);
                refused(Scenes::held, y -> rowWith(y, 3, 1, place, v), OUTSIDE);
                refused(Scenes::held, y -> rowWith(y, 0, 1, place, v), OUTSIDE);
                refused(Scenes::free, y -> rowWith(y, 3, 3, place, v), UNKNOWN);
                refused(Scenes::free, y -> rowWith(y, 9, 1, place, v), UNKNOWN);
            }
        }
        for (int w : NO_WORTH) refused(Scenes::free, x -> x.row(w, 0, 1, 0, 0, 0), UNKNOWN);
        for (int t : NO_THING) {
            refused(Scenes::free, x -> x.row(3, t, 1, 0, 0, 0), UNKNOWN);
            refused(Scenes::free, x -> x.row(0, t, 1, 0, 0, 0), UNKNOWN);
            refused(Scenes::held, x -> x.row(3, t, 1, 0, 0, 0), UNKNOWN);
        }
        refused(Scenes::held, x -> x.row(3, 2, 7, 7, 7, 7), NOT);
        refused(Scenes::full, x -> x.row(3, 0, 7, 7, 7, 7), NOT);
        says(17, "CODE 5.");
        dueOtherKinds(3, (x, w) -> x.row(w, 1, 7, 7, 7, 7));
    }

    private static Scenes.Scene bent(int things, int... rises) {
        return x -> {
            x.things(things);
            x.worth(4);
            for (int v : rises) x.rise(0, v);
        };
    }

    private static void rise() {
        says(18, "BENT: a RISE more (-10000 .. 10000)");
        for (int v : numbers(-10000, -9999, 0, 9999, 10000)) {
            Real x = taken(bent(3), y -> y.rise(0, v), 1);
            for (int k = 0; k < 4; k++) due(x, x.value(0, (1 << k) - 1), k * v);
            due(x, x.count(4, 0), 1);
        }
        says(18, "what is not told is as the last one (0 without any): how many");
        asks(bent(10), x -> x.value(0, 1023), 0);
        asks(bent(10, 7), x -> x.value(0, 1023), 70);
        asks(bent(10, 7, 2), x -> x.value(0, 1023), 25);
        asks(bent(10, 9, 8, 7, 6, 5, 4, 3, 2, 1), x -> x.value(0, 1023), 46);
        asks(bent(10, 9, 8, 7, 6, 5, 4, 3, 2, 1, 0), x -> x.value(0, 1023), 45);
        asks(bent(10, 9, 8, 7, 6, 5, 4, 3, 2, 1, -100), x -> x.value(0, 1023), -55);
        asks(bent(10, 9, 8, 7, 6, 5, 4, 3, 2, 1, -100), x -> x.value(0, 511), 45);
        asks(bent(1, 9, 8), x -> x.value(0, 1), 9);
        asks(bent(0, 9, 8), x -> x.value(0, 0), 0);
        asks(bent(0, 9, 8), x -> x.count(4, 0), 2);
        says(18, "UNKNOWN, OUTSIDE, NOT (HELD; behind CODE 5 also: v is above the RISE ahead of it), "
            + "FULL (10; ahead of that second NOT).");
        for (int w : NO_WORTH) {
            refused(Scenes::free, x -> x.rise(w, -5), UNKNOWN);
            refused(Scenes::free, x -> x.rise(w, 10001), UNKNOWN);
        }
        for (int v : numbers(-10001, 10001, MIN, MAX)) {
            for (int w : numbers(0, 4)) {
                refused(Scenes::free, x -> x.rise(w, v), OUTSIDE);
                refused(Scenes::held, x -> x.rise(w, v), OUTSIDE);
                refused(Scenes::full, x -> x.rise(w, v), OUTSIDE);
            }
        }
        for (int v : numbers(-1, 0, 9, 10, 10000)) refused(Scenes::free, x -> x.rise(4, v), NOT);
        for (int v : numbers(-2, -3, -10000)) taken(Scenes::free, x -> x.rise(4, v), 3);
        refused(bent(3, -10000), x -> x.rise(0, -9999), NOT);
        taken(bent(3, -10000), x -> x.rise(0, -10000), 2);
        refused(bent(3, 9999), x -> x.rise(0, 10000), NOT);
        taken(bent(3, 10000), x -> x.rise(0, 10000), 2);
        taken(bent(3, 9, 8, 7, 6, 5, 4, 3, 2, 1), x -> x.rise(0, 1), 10);
        refused(bent(3, 9, 8, 7, 6, 5, 4, 3, 2, 1), x -> x.rise(0, 2), NOT);
        for (int v : numbers(-10000, -6, -5, -4, 10000)) {
            refused(Scenes::full, x -> x.rise(4, v), FULL);
            refused(Scenes::fullAndHeld, x -> x.rise(4, v), NOT);
            refused(Scenes::held, x -> x.rise(4, v), NOT);
        }
        says(18, "CODE 5.");
        for (int v : numbers(-10000, 0, 10000)) dueOtherKinds(4, (x, w) -> x.rise(w, v));
        for (int w : numbers(1, 2, 5)) coded(Scenes::full, x -> x.rise(w, 10000), 5);
    }

    private static void add() {
        says(19, "SUM: a WORTH more, p, ahead of w, times a factor (0 .. 100): how many.");
        for (int factor : numbers(0, 1, 99, 100)) {
            for (int p = 0; p < 5; p++) {
                int other = p;
                Real x = taken(Scenes::free, y -> y.add(5, other, factor), 1);
                due(x, x.value(5, 1), -8 + factor * x.value(p, 1));
                due(x, x.count(6, p), 1);
                due(x, x.count(5, 5), 1);
            }
        }
        Real ten = taken(then(told(10), x -> {
            x.tell(0, 1023, 1000000);
            x.sum();
        }), y -> y.add(1, 0, 100), 1);
        due(ten, ten.value(1, 1023), 100 * MILLION);
        due(ten, ten.value(1, 1022), 0);
        says(19, "UNKNOWN (w, p), OUTSIDE (factor), NOT (HELD; p is not ahead of w), FULL (4), LARGE.");
        for (int none : NO_WORTH) {
            for (int factor : numbers(1, -1, 101)) {
                refused(Scenes::free, x -> x.add(none, 0, factor), UNKNOWN);
                refused(Scenes::free, x -> x.add(5, none, factor), UNKNOWN);
                refused(Scenes::free, x -> x.add(0, none, factor), UNKNOWN);
                refused(Scenes::free, x -> x.add(none, none, factor), UNKNOWN);
            }
        }
        refused(Scenes::held, x -> x.add(5, 12, 1), UNKNOWN);
        refused(Scenes::full, x -> x.add(5, 12, 1), UNKNOWN);
        for (int factor : numbers(-1, 101, MIN, MAX)) {
            refused(Scenes::free, x -> x.add(5, 0, factor), OUTSIDE);
            refused(Scenes::free, x -> x.add(5, 5, factor), OUTSIDE);
            refused(Scenes::free, x -> x.add(1, 0, factor), OUTSIDE);
            refused(Scenes::held, x -> x.add(5, 0, factor), OUTSIDE);
            refused(Scenes::full, x -> x.add(5, 0, factor), OUTSIDE);
            refused(Scenes::large, x -> x.add(5, 3, factor), OUTSIDE);
        }
        for (int p : numbers(5, 6, 8)) {
            refused(Scenes::free, x -> x.add(5, p, 1), NOT);
            refused(Scenes::full, x -> x.add(5, p, 1), NOT);
        }
        refused(Scenes::free, x -> x.add(0, 0, 1), NOT);
        refused(Scenes::free, x -> x.add(1, 5, 1), NOT);
        refused(Scenes::held, x -> x.add(5, 0, 1), NOT);
        refused(Scenes::fullAndHeld, x -> x.add(5, 0, 1), NOT);
        for (int factor : numbers(0, 1, 100)) refused(Scenes::full, x -> x.add(5, 0, factor), FULL);
        Scenes.Scene three = then(Scenes::free, x -> {
            for (int i = 0; i < 3; i++) x.add(5, 4, 1);
        });
        taken(three, x -> x.add(5, 4, 1), 4);
        refused(then(three, x -> x.add(5, 4, 1)), x -> x.add(5, 0, 1), FULL);
        largeAdd();
        says(19, "CODE 5.");
        for (int w : numbers(1, 2, 3, 4, 7, 8)) coded(Scenes::free, x -> x.add(w, 0, 1), 5);
        coded(Scenes::full, x -> x.add(1, 0, 1), 5);
        coded(Scenes::full, x -> x.add(4, 0, 1), 5);
        coded(then(Scenes::large, x -> x.part(4, 3)), x -> x.add(6, 4, 100), 5);
    }

    /** SUM 3 of the scene is worth 10^12 and - 10^12; a PRICE of 1 more in SUM 5 is too much, at either end. */
    private static void largeAdd() {
        int[][] prices = {{0, 0}, {1, 0}, {0, -1}, {1, -1}, {-1, 1}};
        boolean[] large = {false, true, true, true, false};
        for (int i = 0; i < prices.length; i++) {
            int[] pair = prices[i];
            Scenes.Scene scene = then(Scenes::large, x -> {
                x.price(5, 0, pair[0]);
                x.price(5, 1, pair[1]);
            });
            if (large[i]) {
                refused(scene, x -> x.add(5, 4, 1), LARGE);
            } else {
                Real x = taken(scene, y -> y.add(5, 4, 1), 1);
                due(x, x.value(5, 1), TRILLION + pair[0]);
                due(x, x.value(5, 2), -TRILLION + pair[1]);
                due(x, x.count(6, 4), 1);
            }
        }
        for (int factor : numbers(1, 2, 100)) {
            refused(Scenes::large, x -> x.add(5, 4, factor), LARGE);
            refused(Scenes::largeBehindFree, x -> x.add(6, 5, factor), LARGE);
            refused(Scenes::largeAndFull, x -> x.add(5, 4, factor), FULL);
            refused(Scenes::large, x -> x.add(3, 2, factor), NOT);
        }
        taken(Scenes::large, x -> x.add(5, 4, 0), 1);
        taken(Scenes::large, x -> x.add(5, 2, 12), 1);
        refused(Scenes::large, x -> x.add(5, 2, 13), LARGE);
        refused(Scenes::large, x -> x.add(4, 4, 100), NOT);
        refused(Scenes::large, x -> x.add(4, 6, 100), UNKNOWN);
    }

    private static void price() {
        says(20, "SUM: the PRICE of a THING becomes v (-100000 .. 100000): what it was.");
        int[] was = {-8, 0, 11};
        for (int t = 0; t < 3; t++) {
            int thing = t;
            for (int v : numbers(-100000, -99999, 0, 99999, 100000)) {
                Real x = taken(Scenes::free, y -> y.price(5, thing, v), was[t]);
                due(x, x.value(5, 1 << t), v);
                due(x, x.value(5, 7), 3 - was[t] + v);
                due(x, x.price(5, t, 1), v);
            }
        }
        Real ten = taken(priced(0, 1, 2, 3, 4, 5, 6, 7, 8, 9), y -> y.price(0, 9, 100000), 9);
        due(ten, ten.value(0, 1023), 100036);
        due(ten, ten.value(0, 511), 36);
        says(20, "UNKNOWN, OUTSIDE, NOT (HELD), LARGE.");
        for (int w : NO_WORTH) {
            refused(Scenes::free, x -> x.price(w, 0, 5), UNKNOWN);
            refused(Scenes::free, x -> x.price(w, 0, 100001), UNKNOWN);
        }
        for (int t : NO_THING) {
            for (int w : numbers(0, 5)) {
                refused(Scenes::free, x -> x.price(w, t, 5), UNKNOWN);
                refused(Scenes::free, x -> x.price(w, t, -100001), UNKNOWN);
                refused(Scenes::held, x -> x.price(w, t, 5), UNKNOWN);
            }
        }
        for (int v : numbers(-100001, 100001, MIN, MAX)) {
            for (int w : numbers(0, 5)) {
                refused(Scenes::free, x -> x.price(w, 0, v), OUTSIDE);
                refused(Scenes::held, x -> x.price(w, 0, v), OUTSIDE);
            }
            refused(Scenes::large, x -> x.price(4, 0, v), OUTSIDE);
            refused(Scenes::large, x -> x.price(4, 1, v), OUTSIDE);
        }
        refused(Scenes::held, x -> x.price(5, 0, 5), NOT);
        refused(Scenes::fullAndHeld, x -> x.price(5, 0, 5), NOT);
        largePrice();
        says(20, "CODE 5.");
        dueOtherKinds(5, (x, w) -> x.price(w, 0, 5));
        coded(then(Scenes::large, x -> x.part(4, 3)), x -> x.price(6, 0, 1), 5);
        says(20, "(What is told may be as a refusal is.)");
        for (int v : numbers(UNKNOWN, OUTSIDE, NOT, FULL, LARGE, NONE)) {
            Real x = taken(then(Scenes::free, y -> y.price(5, 1, v)), y -> y.price(5, 1, 6), v);
            due(x, x.value(5, 2), 6);
        }
    }

    private static void largePrice() {
        for (int v : numbers(1, 100000)) {
            refused(Scenes::large, x -> x.price(4, 0, v), LARGE);
            refused(Scenes::large, x -> x.price(4, 1, -v), LARGE);
            refused(Scenes::largeBehindFree, x -> x.price(5, 0, v), LARGE);
            refused(Scenes::large, x -> x.price(3, 0, v), NOT);
            refused(Scenes::large, x -> x.price(4, 2, v), UNKNOWN);
            Real x = taken(Scenes::large, y -> y.price(4, 0, -v), 0);
            due(x, x.value(4, 1), TRILLION - v);
            due(x, x.price(4, 0, 1), LARGE);
            due(x, x.price(4, 0, 0), -v);
            due(x, x.value(4, 1), TRILLION);
            Real y = taken(Scenes::large, z -> z.price(4, 1, v), 0);
            due(y, y.value(4, 2), -TRILLION + v);
            due(y, y.price(4, 1, -1), LARGE);
            due(y, y.price(4, 1, 0), v);
            due(y, y.value(4, 2), -TRILLION);
        }
        // What a PRICE was is taken off: from -5 on, 0 is 5 more.
        refused(then(Scenes::large, x -> x.price(4, 0, -5)), x -> x.price(4, 0, 1), LARGE);
        taken(then(Scenes::large, x -> x.price(4, 0, -5)), x -> x.price(4, 0, 0), -5);
    }

    private static void code() {
        says(21, "CODE of the latest call that names CODES and was not refused.");
        Call[] naming = {
            x -> x.sheet(0, 0, 1), x -> x.put(1, 1, 0, 1), x -> x.at(1, 0), x -> x.tell(0, 1, 1), x -> x.read(0, 1),
            x -> x.line(1, 0, 1, 1), x -> x.spot(2, 1, 1), x -> x.row(3, 0, 1, 1, 1, 1), x -> x.rise(4, -9),
            x -> x.add(5, 0, 1), x -> x.price(5, 0, 1),
        };
        for (Call call : naming) {
            for (int before : numbers(0, 1, 2, 3, 4, 5)) {
                Real x = Scenes.real(then(Scenes::free, y -> setCode(y, before)));
                call.on(x);
                due(x, x.code(), 0);
            }
        }
        Call[] without = {
            x -> x.things(3), x -> x.tear(0), x -> x.worth(0), Bench::sum, x -> x.part(0, 1), x -> x.beyond(0, 1), x -> x.kind(0),
            x -> x.count(0, 0), Bench::code, x -> x.value(0, 1), x -> x.adds(0, 0, 1), x -> x.falls(0), x -> x.why(0, 0),
            x -> x.least(0), x -> x.all(0, 3), x -> x.one(0, 0), x -> x.level(0, 1), x -> x.bends(0), x -> x.bend(0, 0, 0),
            x -> x.order(0, 1), x -> x.corner(0), x -> x.mix(0, 1, 1), x -> x.share(0, 1), x -> x.shareOf(0), x -> x.in(0),
            x -> x.proves(0), x -> x.greed(0, 2), x -> x.best(0, 2),
        };
        Call[] refusing = {
            x -> x.things(11), x -> x.sheet(4, 0, 1), x -> x.sheet(0, 3, 1), x -> x.sheet(0, 0, 1101), x -> x.tear(4),
            x -> x.put(4, 0, 0, 1), x -> x.put(0, 3, 0, 1), x -> x.at(4, 0), x -> x.worth(5), x -> x.part(9, 0),
            x -> x.beyond(9, 0), x -> x.tell(9, 1, 1), x -> x.tell(0, 0, 1), x -> x.tell(6, 1, 1), x -> x.read(9, 0),
            x -> x.read(6, 0), x -> x.read(0, 2), x -> x.line(9, 0, 1, 1), x -> x.line(1, 0, 1, -1), x -> x.line(1, 0, 0, 1),
            x -> x.spot(9, 1, 1), x -> x.spot(2, -1, 1), x -> x.row(9, 0, 1, 1, 1, 1), x -> x.row(3, 0, 100, 1, 1, 1),
            x -> x.rise(9, 1), x -> x.rise(4, 10001), x -> x.rise(4, 0), x -> x.add(9, 0, 1), x -> x.add(5, 0, -1),
            x -> x.add(5, 5, 1), x -> x.price(9, 0, 1), x -> x.price(5, 0, 100001),
        };
        for (int before : numbers(0, 1, 2, 3, 4, 5)) {
            for (Call call : without) dueLeft(Scenes::free, call, before);
            for (Call call : refusing) dueLeft(Scenes::free, call, before);
            Call[] full = {x -> x.line(1, 0, 1, 1), x -> x.spot(2, 1, 1), x -> x.rise(4, -9), x -> x.add(5, 0, 1), Bench::sum};
            for (Call call : full) dueLeft(Scenes::full, call, before);
            Call[] large = {x -> x.add(5, 4, 1), x -> x.price(4, 0, 1), x -> x.beyond(4, 2), x -> x.mix(4, 2, 2)};
            for (Call call : large) dueLeft(Scenes::large, call, before);
        }
    }

    private static void dueLeft(Scenes.Scene scene, Call call, int before) {
        Real x = Scenes.real(then(scene, y -> setCode(y, before)));
        call.on(x);
        String asked = x.latest();
        int code = x.code();
        if (code != before) System.out.println("behind " + asked + ":");
        due(x, code, before);
    }

    /** Any CODE can be met without a change that the calls here would see. */
    private static void setCode(Bench x, int code) {
        switch (code) {
            case 1: x.at(3, 0); break;
            case 2: x.sheet(3, 0, 1); x.put(3, 1, 0, 1); break;
            case 3: x.sheet(3, 0, 1); x.at(3, 1); break;
            case 4: x.sheet(3, 0, -1); break;
            case 5: x.rise(0, 1); if (x.code() != 5) x.row(4, 0, 1, 1, 1, 1); break;
            default: x.sheet(3, 0, 1); break;
        }
    }

    public static void main(String[] args) {
        tell();
        read();
        line();
        spot();
        row();
        rise();
        add();
        price();
        code();
        end(13, 21);
    }
}
