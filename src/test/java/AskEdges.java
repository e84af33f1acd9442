/** The edges that the document names in promises 22 to 31: what is worth what, and the least. */
public final class AskEdges extends Check {
    /** WORTH 0 is TOLD, each SET as its COUNT says. */
    private static Scenes.Scene byCount(int... lows) {
        return x -> {
            x.things(lows.length);
            x.worth(0);
            for (int set = 1; set < 1 << lows.length; set++) x.tell(0, set, lows[Integer.bitCount(set) - 1]);
        };
    }

    private static void value() {
        says(22, "VALUE of a SET.");
        asks(told(0), x -> x.value(0, 0), 0);
        asks(told(1, 9), x -> x.value(0, 1), 9);
        asks(ten(1023, 8), x -> x.value(0, 1023), 8);
        asks(ten(1023, 8), x -> x.value(0, 1022), 0);
        asks(Scenes::large, x -> x.value(3, 1), TRILLION);
        asks(Scenes::large, x -> x.value(3, 2), -TRILLION);
        says(22, "UNKNOWN.");
        dueNoWorth((x, w) -> x.value(w, 0));
        dueNoWorth((x, w) -> x.value(w, 8));
        for (int set : numbers(-1, 8, 1023, MIN, MAX)) refused(Scenes::free, x -> x.value(0, set), UNKNOWN);
        refused(told(0), x -> x.value(0, 1), UNKNOWN);
        refused(told(10), x -> x.value(0, 1024), UNKNOWN);
        says(22, "(What is told may be as a refusal is.)");
        for (int v : numbers(UNKNOWN, OUTSIDE, NONE)) asks(told(1, v), x -> x.value(0, 1), v);
    }

    private static void adds() {
        says(23, "What a THING adds to a SET (0, if it is in it).");
        long[][] want = {{5, -3}, {0, 2}, {10, 0}, {0, 0}};
        for (int set = 0; set < 4; set++) {
            for (int t = 0; t < 2; t++) {
                int to = set, thing = t;
                asks(told(2, 5, -3, 7), x -> x.adds(0, to, thing), want[set][t]);
            }
        }
        asks(ten(1023, 8), x -> x.adds(0, 511, 9), 8);
        asks(ten(1023, 8), x -> x.adds(0, 1023, 9), 0);
        asks(Scenes::large, x -> x.adds(3, 2, 0), TRILLION + MILLION);
        says(23, "UNKNOWN.");
        dueNoWorth((x, w) -> x.adds(w, 0, 0));
        for (int set : numbers(-1, 8, MIN, MAX)) refused(Scenes::free, x -> x.adds(0, set, 0), UNKNOWN);
        for (int t : numbers(-1, 3, 31, 32, MIN, MAX)) {
            refused(Scenes::free, x -> x.adds(0, 0, t), UNKNOWN);
            refused(Scenes::free, x -> x.adds(0, 7, t), UNKNOWN);
        }
        refused(told(10), x -> x.adds(0, 1023, 10), UNKNOWN);
        refused(told(10), x -> x.adds(0, 1024, 9), UNKNOWN);
        refused(told(0), x -> x.adds(0, 0, 0), UNKNOWN);
        says(23, "(What is told may be as a refusal is.)");
        for (int v : numbers(UNKNOWN, OUTSIDE, NONE)) asks(told(1, v), x -> x.adds(0, 0, 0), v);
    }

    private static void falls() {
        says(24, "Whether a WORTH FALLS: 1, 0.");
        asks(told(0), x -> x.falls(0), 1);
        asks(told(1, 1000000), x -> x.falls(0), 1);
        asks(told(2, 2, 3, 4), x -> x.falls(0), 1);
        says(0, "are in all not below those of S and of S with both");
        asks(told(2, 2, 3, 5), x -> x.falls(0), 1);
        asks(told(2, 2, 3, 6), x -> x.falls(0), 0);
        asks(told(2, -2, -3, -5), x -> x.falls(0), 1);
        asks(told(2, -2, -3, -4), x -> x.falls(0), 0);
        asks(told(3, 2, 2, 3, 2, 3, 3, 4), x -> x.falls(0), 1);
        asks(told(3, 2, 2, 3, 2, 3, 3, 5), x -> x.falls(0), 0);
        asks(Scenes::large, x -> x.falls(3), 0);
        says(24, "UNKNOWN.");
        dueNoWorth((x, w) -> x.falls(w));
        for (int set : numbers(3, 768, 1023)) asks(ten(set, 1), x -> x.falls(0), 0);
        asks(ten(1023, -1), x -> x.falls(0), 1);
        asks(ten(1, 1), x -> x.falls(0), 0);
        asks(ten(512, -1), x -> x.falls(0), 0);
        asks(told(10), x -> x.falls(0), 1);
    }

    private static void dueWhy(Scenes.Scene scene, int... want) {
        for (int what = 0; what < 3; what++) {
            int asked = what;
            asks(scene, x -> x.why(0, asked), want[what]);
        }
    }

    private static void why() {
        says(25, "the first S (the least), with the least a, with the least b above it, for which it does not");
        dueWhy(told(2, 2, 3, 6), 0, 0, 1);
        dueWhy(told(3, 1, 1, 9, 1, 9, 9, 9), 0, 0, 1);
        dueWhy(told(3, 1, 1, 2, 1, 9, 9, 9), 0, 0, 2);
        dueWhy(told(3, 1, 1, 2, 1, 2, 3, 9), 0, 1, 2);
        dueWhy(told(3, 2, 2, 3, 2, 3, 3, 5), 1, 1, 2);
        dueWhy(told(3, 3, 2, 3, 2, 3, 3, 5), 1, 1, 2);
        dueWhy(told(3, 3, 2, 3, 3, 6, 3, 5), 2, 0, 2);
        dueWhy(told(3, 3, 3, 6, 2, 3, 3, 5), 4, 0, 1);
        dueWhy(ten(1023, 1), 255, 8, 9);
        dueWhy(ten(768, 1), 0, 8, 9);
        dueWhy(ten(3, 1), 0, 0, 1);
        dueWhy(ten(1, 1), 1, 1, 2);
        says(25, "NONE: it FALLS.");
        dueWhy(told(0), NONE, NONE, NONE);
        dueWhy(told(1, 5), NONE, NONE, NONE);
        dueWhy(told(2, 2, 3, 5), NONE, NONE, NONE);
        dueWhy(told(10), NONE, NONE, NONE);
        says(25, "UNKNOWN, OUTSIDE.");
        for (int what : numbers(-1, 3, MIN, MAX)) {
            refused(told(2, 2, 3, 6), x -> x.why(0, what), OUTSIDE);
            refused(told(2, 2, 3, 5), x -> x.why(0, what), OUTSIDE);
            dueNoWorth((x, w) -> x.why(w, what));
        }
        for (int what : numbers(0, 1, 2)) dueNoWorth((x, w) -> x.why(w, what));
    }

    private static void least() {
        says(26, "THE LEAST.");
        asks(Scenes::large, x -> x.least(3), -TRILLION);
        asks(Scenes::large, x -> x.least(0), -MILLION);
        says(0, "its least VALUE over all SETS (also 0 and ALL)");
        asks(told(0), x -> x.least(0), 0);
        asks(told(1, 1), x -> x.least(0), 0);
        asks(told(1, -1), x -> x.least(0), -1);
        asks(told(2, 5, 3, -1), x -> x.least(0), -1);
        asks(ten(1023, -7), x -> x.least(0), -7);
        asks(ten(1023, 7), x -> x.least(0), 0);
        asks(ten(1, -7), x -> x.least(0), -7);
        says(26, "UNKNOWN.");
        dueNoWorth((x, w) -> x.least(w));
        says(26, "(What is told may be as a refusal is.)");
        for (int v : numbers(UNKNOWN, OUTSIDE, NONE)) asks(told(2, 0, v, 0), x -> x.least(0), v);
    }

    private static void dueAll(Scenes.Scene scene, int... want) {
        for (int what = 0; what < 4; what++) {
            int asked = what;
            asks(scene, x -> x.all(0, asked), want[what]);
        }
    }

    private static void all() {
        says(27, "0 how many, 1 what all of them have, 2 what some of them have");
        dueAll(told(0), 1, 0, 0, 1);
        dueAll(told(1, 5), 1, 0, 0, 1);
        dueAll(told(1, -5), 1, 1, 1, 1);
        dueAll(told(1, 0), 2, 0, 1, 1);
        dueAll(told(10), 1024, 0, 1023, 1);
        dueAll(ten(1023, -1), 1, 1023, 1023, 1);
        dueAll(ten(512, -1), 1, 512, 512, 1);
        dueAll(ten(1023, 1), 1023, 0, 1023, 0);
        dueAll(ten(0, 1), 1024, 0, 1023, 1);
        says(27, "3 whether what two of them both have, and what they have in all, are LEAST SETS too (1, 0)");
        dueAll(told(2, -1, -1, -1), 3, 0, 3, 0);
        dueAll(told(2, 0, 0, 1), 3, 0, 3, 0);
        dueAll(told(2, -1, -1, 0), 2, 0, 3, 0);
        dueAll(told(2, 0, 1, 0), 3, 0, 3, 1);
        dueAll(told(2, 0, 0, 0), 4, 0, 3, 1);
        dueAll(told(3, -1, 0, -1, 0, -1, 0, 0), 3, 1, 7, 0);
        dueAll(told(3, 0, 0, -1, 0, -1, 0, -1), 3, 1, 7, 0);
        dueAll(told(3, -1, 0, -1, 0, -1, 0, -1), 4, 1, 7, 1);
        dueAll(told(3, 1, 1, 1, 1, 1, 1, 0), 2, 0, 7, 1);
        says(27, "UNKNOWN, OUTSIDE.");
        for (int what : numbers(-1, 4, MIN, MAX)) {
            refused(Scenes::free, x -> x.all(0, what), OUTSIDE);
            dueNoWorth((x, w) -> x.all(w, what));
        }
        for (int what : numbers(0, 1, 2, 3)) dueNoWorth((x, w) -> x.all(w, what));
    }

    private static void dueOnes(Scenes.Scene scene, int... sets) {
        for (int i = 0; i < sets.length; i++) {
            int number = i;
            asks(scene, x -> x.one(0, number), sets[i]);
        }
        for (int i : numbers(-1, sets.length, 1024, MIN, MAX)) asks(scene, x -> x.one(0, i), NONE);
    }

    private static void one() {
        says(28, "The i-th LEAST SET, by numbers; NONE.");
        dueOnes(told(0), 0);
        dueOnes(told(1, 0), 0, 1);
        dueOnes(told(1, -1), 1);
        dueOnes(told(3, 0, -4, 0, -4, 1, 2, -4), 2, 4, 7);
        dueOnes(ten(1023, -1), 1023);
        asks(told(10), x -> x.one(0, 1023), 1023);
        for (int i : numbers(-1, 1024, MIN, MAX)) asks(told(10), x -> x.one(0, i), NONE);
        says(28, "UNKNOWN.");
        for (int i : numbers(-1, 0, MAX)) dueNoWorth((x, w) -> x.one(w, i));
    }

    private static void level() {
        says(29, "LEVEL of COUNT k.");
        int[] lows = {0, 3, -9, 6};
        for (int k = 0; k < 4; k++) {
            int count = k;
            asks(told(3, 5, 3, 8, 4, -9, 7, 6), x -> x.level(0, count), lows[k]);
            asks(told(3, 3, 5, -9, 4, 8, 7, 6), x -> x.level(0, count), lows[k]);
            asks(told(3, 5, 4, 7, 3, 8, -9, 6), x -> x.level(0, count), lows[k]);
        }
        says(0, "for each COUNT k from 0 to THINGS");
        asks(told(0), x -> x.level(0, 0), 0);
        asks(ten(1023, -4), x -> x.level(0, 10), -4);
        asks(ten(1023, -4), x -> x.level(0, 9), 0);
        asks(ten(1023, 4), x -> x.level(0, 10), 4);
        asks(ten(1022, -4), x -> x.level(0, 9), -4);
        asks(Scenes::large, x -> x.level(3, 1), -TRILLION);
        says(29, "UNKNOWN, OUTSIDE.");
        for (int k : numbers(-1, 4, 10, MIN, MAX)) {
            refused(Scenes::free, x -> x.level(0, k), OUTSIDE);
            dueNoWorth((x, w) -> x.level(w, k));
        }
        dueNoWorth((x, w) -> x.level(w, 0));
        for (int k : numbers(-1, 1)) refused(told(0), x -> x.level(0, k), OUTSIDE);
        for (int k : numbers(-1, 11)) refused(told(10), x -> x.level(0, k), OUTSIDE);
        says(29, "(What is told may be as a refusal is.)");
        for (int v : numbers(UNKNOWN, OUTSIDE, NONE)) asks(told(1, v), x -> x.level(0, 1), v);
    }

    /** Each BEND as its top, its bottom, the COUNT ahead of it and the one behind; and there is none before or after. */
    private static void dueBends(Scenes.Scene scene, int w, long[]... want) {
        asks(scene, x -> x.bends(w), want.length);
        for (int i = 0; i < want.length; i++) {
            for (int what = 0; what < 4; what++) {
                int number = i, asked = what;
                asks(scene, x -> x.bend(w, number, asked), want[i][what]);
            }
        }
        for (int i : numbers(-1, want.length, 10, MIN, MAX)) {
            if (i >= 0 && i < want.length) continue;
            for (int what : numbers(-1, 0, 3, 4, MAX)) refused(scene, x -> x.bend(w, i, what), UNKNOWN);
        }
    }

    private static long[] bend(long top, long bottom, long from, long to) {
        return new long[] {top, bottom, from, to};
    }

    private static void bends() {
        says(30, "How many BENDS.");
        dueBends(told(0), 0);
        dueBends(told(1, 7), 0, bend(7, 1, 0, 1));
        dueBends(told(10), 0, bend(0, 1, 0, 10));
        dueBends(priced(3, 3, 3, 3, 3, 3, 3, 3, 3, 3), 0, bend(3, 1, 0, 10));
        long[][] ten = new long[10][];
        for (int i = 0; i < 10; i++) ten[i] = bend(i - 5, 1, i, i + 1);
        dueBends(priced(4, 3, 2, 1, 0, -1, -2, -3, -4, -5), 0, ten);
        says(30, "UNKNOWN.");
        dueNoWorth((x, w) -> x.bends(w));
        // Asked of one WORTH after another, with more BENDS and with fewer.
        Real x = Scenes.real(then(told(3, -5, -5, -5, -5, -5, -5, 9), y -> {
            y.worth(0);
            y.tell(1, 7, 1);
        }));
        for (int turn = 0; turn < 2; turn++) {
            due(x, x.bends(0), 3);
            due(x, x.bends(1), 2);
            due(x, x.bend(0, 2, 2), 2);
            due(x, x.bend(1, 0, 3), 2);
            x.tell(1, 7, 0);
            due(x, x.bends(1), 1);
            due(x, x.bend(1, 0, 3), 3);
            due(x, x.bend(1, 1, 0), UNKNOWN);
            x.tell(1, 7, 1);
        }
    }

    private static void bend() {
        says(31, "BEND i: what = 0 the top of its PRICE, 1 the bottom, 2 the COUNT ahead of it, 3 the one behind.");
        dueBends(told(2, 3, 3, 7), 0, bend(3, 1, 0, 1), bend(4, 1, 1, 2));
        dueBends(Scenes::large, 3, bend(-TRILLION, 1, 0, 1), bend(TRILLION + MILLION, 1, 1, 2));
        says(0, "a fraction in least terms, its bottom above 0");
        dueBends(byCount(9, 9, -5), 0, bend(-5, 3, 0, 3));
        dueBends(byCount(9, 9, 9, -6), 0, bend(-3, 2, 0, 4));
        dueBends(byCount(9, 9, 9, 6), 0, bend(3, 2, 0, 4));
        dueBends(byCount(9, 9, 9, 0), 0, bend(0, 1, 0, 4));
        dueBends(byCount(9, 9, 9, -8), 0, bend(-2, 1, 0, 4));
        dueBends(byCount(9, 9, 9, 9, 9, -4), 0, bend(-2, 3, 0, 6));
        dueBends(byCount(-5, 0, 2, 3, 9), 0, bend(-5, 1, 0, 1), bend(8, 3, 1, 4), bend(6, 1, 4, 5));
        says(0, "(Each k that is least only at a BEND itself, between others, is left out.)");
        dueBends(told(2, 3, 3, 6), 0, bend(3, 1, 0, 2));
        dueBends(told(2, 3, 3, 5), 0, bend(5, 2, 0, 2));
        dueBends(byCount(1, 2, 9), 0, bend(1, 1, 0, 2), bend(7, 1, 2, 3));
        dueBends(byCount(4, 2, 5, 6, 8), 0, bend(1, 1, 0, 2), bend(2, 1, 2, 5));
        dueBends(byCount(-7, -8, 5, -3, 9), 0, bend(-7, 1, 0, 1), bend(-1, 1, 1, 2), bend(5, 2, 2, 4), bend(12, 1, 4, 5));
        says(31, "UNKNOWN (also no such BEND), OUTSIDE.");
        for (int what : numbers(-1, 4, MIN, MAX)) {
            refused(told(2, 3, 3, 7), x -> x.bend(0, 0, what), OUTSIDE);
            refused(told(2, 3, 3, 7), x -> x.bend(0, 1, what), OUTSIDE);
            refused(told(2, 3, 3, 7), x -> x.bend(0, 2, what), UNKNOWN);
            refused(told(0), x -> x.bend(0, 0, what), UNKNOWN);
            dueNoWorth((x, w) -> x.bend(w, 0, what));
        }
        for (int what : numbers(0, 1, 2, 3)) dueNoWorth((x, w) -> x.bend(w, 0, what));
        says(31, "(What is told may be as a refusal is.)");
        for (int v : numbers(UNKNOWN, OUTSIDE, NONE)) asks(told(1, v), x -> x.bend(0, 0, 0), v);
    }

    /** What one WORTH answers does not hang on what was asked of another one just before. */
    private static void oneAfterAnother() {
        says(0, "A WORTH (12 at most) tells each SET a number, its VALUE");
        Scenes.Scene three = x -> {
            x.things(3);
            for (int w = 0; w < 3; w++) x.worth(0);
            x.tell(0, 1, -1);
            x.tell(0, 6, -1);
            x.tell(1, 7, -2);
            x.tell(2, 4, 1);
            x.tell(2, 5, 1);
        };
        Call[] questions = new Call[3 * 24];
        for (int w = 0; w < 3; w++) {
            CallOn[] of = {
                (x, v) -> x.falls(v), (x, v) -> x.why(v, 0), (x, v) -> x.why(v, 1), (x, v) -> x.why(v, 2), (x, v) -> x.least(v),
                (x, v) -> x.all(v, 0), (x, v) -> x.all(v, 1), (x, v) -> x.all(v, 2), (x, v) -> x.all(v, 3),
                (x, v) -> x.one(v, 0), (x, v) -> x.one(v, 1), (x, v) -> x.level(v, 1), (x, v) -> x.level(v, 2),
                (x, v) -> x.level(v, 3), (x, v) -> x.bends(v), (x, v) -> x.bend(v, 0, 0), (x, v) -> x.bend(v, 0, 1),
                (x, v) -> x.bend(v, 0, 3), (x, v) -> x.bend(v, 1, 0), (x, v) -> x.bend(v, 1, 1), (x, v) -> x.bend(v, 1, 3),
                (x, v) -> x.in(v), (x, v) -> x.proves(v), (x, v) -> x.greed(v, 3),
            };
            int worth = w;
            for (int i = 0; i < of.length; i++) {
                CallOn question = of[i];
                questions[3 * i + w] = x -> question.on(x, worth);
            }
        }
        Model model = new Model();
        three.on(model);
        for (Call first : questions) {
            Real x = Scenes.real(three);
            for (Call second : questions) {
                first.on(x);
                due(x, second.on(x), second.on(model));
            }
        }
    }

    public static void main(String[] args) {
        value();
        adds();
        falls();
        why();
        least();
        all();
        one();
        level();
        bends();
        bend();
        oneAfterAnother();
        end(22, 31);
    }
}
