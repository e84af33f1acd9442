/** The edges that the document names in promises 1 to 6: the new object, THINGS, SHEETS. */
public final class SheetEdges extends Check {
    private static final Scenes.Scene NEW = x -> { };

    /** SHEETS 0, 1, 2 are of the FORM of their number, with two places, 3 is nothing, but was ints. */
    private static void forms(Bench x) {
        Scenes.free(x);
        for (int form = 0; form < 3; form++) {
            x.sheet(form, form, 2);
            x.put(form, form, 0, 11);
            x.put(form, form, 1, 12);
        }
        x.sheet(3, 1, 2);
        x.tear(3);
    }

    private static void newObject() {
        says(1, "No THINGS, no WORTHS, no SHEETS; CODE 0.");
        Real other = Scenes.real(Scenes::held);
        Real x = new Real();
        due(x, x.code(), 0);
        due(x, x.count(0, 0), 0);
        due(x, x.count(1, 0), 0);
        due(x, x.kind(0), UNKNOWN);
        due(x, x.shareOf(0), UNKNOWN);
        due(x, x.order(0, 0), UNKNOWN);
        due(x, x.shareOf(NONE), 1);
        due(x, x.code(), 0);
        for (int s = 0; s < 4; s++) {
            due(x, x.at(s, 0), 0);
            due(x, x.code(), 1);
            due(x, x.tear(s), 0);
        }
        due(x, x.worth(0), 0);
        due(x, x.value(0, 0), 0);
        due(x, x.value(0, 1), UNKNOWN);
        due(other, other.count(1, 0), 12);
        due(other, other.value(0, 7), 7);
        due(other, other.tear(0), 1);
        alike(NEW, then(NEW, y -> y.things(0)));
    }

    private static void things() {
        says(2, "n THINGS (0 .. 10)");
        for (int n = 0; n <= 10; n++) {
            int number = n;
            Real x = done(Scenes::free, y -> y.things(number), 9);
            due(x, x.count(0, 0), n);
            due(x, x.shareOf(n - 1), n == 0 ? 1 : 0);
            due(x, x.shareOf(n), UNKNOWN);
            due(x, x.order(n, 0), UNKNOWN);
        }
        says(2, "OUTSIDE.");
        for (int n : numbers(-1, 11, MIN, MAX)) {
            refused(NEW, x -> x.things(n), OUTSIDE);
            refused(Scenes::free, x -> x.things(n), OUTSIDE);
            refused(Scenes::held, x -> x.things(n), OUTSIDE);
            refused(x -> x.things(10), x -> x.things(n), OUTSIDE);
        }
        says(2, "no WORTHS, THE ORDER, THE SHARES as at first");
        for (int n : numbers(0, 1, 3, 10)) {
            alike(then(Scenes::held, x -> x.things(n)), x -> {
                Scenes.layOutSheets(x, 3);
                x.things(n);
            });
            Real x = Scenes.real(then(Scenes::held, y -> y.things(n)));
            due(x, x.count(1, 0), 0);
            due(x, x.kind(0), UNKNOWN);
            due(x, x.shareOf(NONE), 1);
            for (int t = 0; t < n; t++) {
                due(x, x.shareOf(t), 0);
                due(x, x.order(t, t), t);
            }
        }
        says(2, "how many WORTHS there were");
        done(NEW, x -> x.things(3), 0);
        done(Scenes::full, x -> x.things(3), 12);
        done(then(Scenes::full, x -> x.things(3)), x -> x.things(3), 0);
        says(2, "(SHEETS stay.)");
        Real x = done(Scenes::free, y -> y.things(0), 9);
        due(x, x.at(0, 1), -9);
        due(x, x.at(1, 7), -1000000);
        due(x, x.at(2, 8), 1000002);
        due(x, x.tear(3), 0);
    }

    private static void sheet() {
        says(3, "SHEET s is a row of a FORM with n places: n.");
        for (int s = 0; s < 4; s++) {
            for (int form = 0; form < 3; form++) dueRow(s, form, 5);
        }
        for (int n : numbers(0, 1, 1099, 1100)) dueRow(1, 2, n);
        Real x = taken(Scenes::free, y -> y.sheet(2, 1, 9), 9);
        for (int i = 0; i < 9; i++) due(x, x.at(2, i), 0);
        due(x, x.at(1, 7), -1000000);
        says(3, "UNKNOWN; OUTSIDE: FORM, n above 1100.");
        for (int s : numbers(-1, 4, MIN, MAX)) {
            refused(Scenes::free, y -> y.sheet(s, 0, 5), UNKNOWN);
            refused(Scenes::free, y -> y.sheet(s, 3, 5), UNKNOWN);
            refused(Scenes::free, y -> y.sheet(s, 0, 1101), UNKNOWN);
            refused(Scenes::free, y -> y.sheet(s, 0, -1), UNKNOWN);
        }
        for (int form : numbers(-1, 3, MIN, MAX)) {
            refused(Scenes::free, y -> y.sheet(1, form, 5), OUTSIDE);
            refused(Scenes::free, y -> y.sheet(3, form, 5), OUTSIDE);
            refused(Scenes::free, y -> y.sheet(1, form, -1), OUTSIDE);
        }
        for (int n : numbers(1101, MAX)) {
            refused(Scenes::free, y -> y.sheet(1, 1, n), OUTSIDE);
            refused(Scenes::free, y -> y.sheet(3, 1, n), OUTSIDE);
        }
        says(3, "CODE 4.");
        for (int n : numbers(-1, -2, MIN)) {
            coded(Scenes::free, y -> y.sheet(1, 1, n), 4);
            coded(Scenes::free, y -> y.sheet(1, 0, n), 4);
            coded(Scenes::free, y -> y.sheet(3, 2, n), 4);
        }
        coded(NEW, y -> y.sheet(0, 0, -1), 4);
        coded(NEW, y -> y.sheet(3, 2, -1), 4);
    }

    /** The first place and the last one are there, those about them are not, and the FORM is the one that was told. */
    private static void dueRow(int s, int form, int n) {
        Real x = taken(Scenes::free, y -> y.sheet(s, form, n), n);
        for (int i : numbers(-1, 0, n - 1, n)) {
            due(x, x.at(s, i), 0);
            due(x, x.code(), i >= 0 && i < n ? 0 : 3);
        }
        for (int other = 0; other < 3; other++) {
            due(x, x.put(s, other, n, 1), 0);
            due(x, x.code(), other == form ? 3 : 2);
        }
        due(x, x.tear(s), 1);
    }

    private static void tear() {
        says(4, "SHEET s is nothing: 1, if there was a row, 0.");
        for (int s = 0; s < 4; s++) {
            int number = s;
            Real x = done(Scenes::free, y -> y.tear(number), s == 3 ? 0 : 1);
            due(x, x.at(s, 0), 0);
            due(x, x.code(), 1);
            due(x, x.tear(s), 0);
            for (int other = 0; other < 3; other++) {
                if (other != s) due(x, x.tear(other), 1);
            }
        }
        done(x -> x.sheet(2, 1, 0), x -> x.tear(2), 1);
        done(x -> x.sheet(2, 1, 1100), x -> x.tear(2), 1);
        done(NEW, x -> x.tear(0), 0);
        coded(then(Scenes::free, x -> x.tear(1)), x -> x.at(1, 7), 1);
        alike(then(Scenes::free, x -> {
            x.tear(2);
            x.sheet(2, 2, 9);
        }), then(Scenes::free, x -> x.sheet(2, 2, 9)));
        says(4, "UNKNOWN.");
        for (int s : numbers(-1, 4, MIN, MAX)) {
            refused(Scenes::free, x -> x.tear(s), UNKNOWN);
            refused(NEW, x -> x.tear(s), UNKNOWN);
        }
    }

    private static void putIn(int form, long v, long want) {
        for (int i = 0; i < 2; i++) {
            int place = i;
            Real x = taken(SheetEdges::forms, y -> y.put(form, form, place, v), want);
            due(x, x.at(form, i), want);
            due(x, x.at(form, 1 - i), 12 - i);
        }
    }

    private static void put() {
        says(5, "gets v, cut to the FORM's lowest bits (8, 32, 64): what is there then");
        long[][] bytes = {{127, 127}, {128, -128}, {-128, -128}, {-129, 127}, {255, -1}, {256, 0}, {-256, 0}, {-257, -1},
            {Long.MAX_VALUE, -1}, {Long.MIN_VALUE, 0}, {1L << 32, 0}, {-1001, 23}};
        for (long[] pair : bytes) putIn(0, pair[0], pair[1]);
        long[][] ints = {{MAX, MAX}, {2147483648L, MIN}, {MIN, MIN}, {-2147483649L, MAX}, {4294967295L, -1}, {4294967296L, 0},
            {-4294967297L, -1}, {Long.MAX_VALUE, -1}, {Long.MIN_VALUE, 0}, {128, 128}, {256, 256}};
        for (long[] pair : ints) putIn(1, pair[0], pair[1]);
        for (long v : new long[] {0, -1, 128, 2147483648L, -2147483649L, Long.MAX_VALUE, Long.MIN_VALUE}) putIn(2, v, v);
        says(5, "UNKNOWN; OUTSIDE: FORM.");
        for (int s : numbers(-1, 4, MIN, MAX)) {
            refused(SheetEdges::forms, x -> x.put(s, 0, 0, 5), UNKNOWN);
            refused(SheetEdges::forms, x -> x.put(s, 3, 0, 5), UNKNOWN);
            refused(SheetEdges::forms, x -> x.put(s, 0, -1, 5), UNKNOWN);
        }
        for (int form : numbers(-1, 3, MIN, MAX)) {
            refused(SheetEdges::forms, x -> x.put(0, form, 0, 5), OUTSIDE);
            refused(SheetEdges::forms, x -> x.put(3, form, 0, 5), OUTSIDE);
            refused(SheetEdges::forms, x -> x.put(0, form, 2, 5), OUTSIDE);
        }
        says(5, "CODES 1, 2, 3, in this order.");
        for (int form = 0; form < 3; form++) {
            int told = form;
            coded(SheetEdges::forms, x -> x.put(3, told, 0, 5), 1);
            coded(SheetEdges::forms, x -> x.put(3, told, -1, 5), 1);
            coded(SheetEdges::forms, x -> x.put(3, told, 2, 5), 1);
            coded(NEW, x -> x.put(3, told, 0, 5), 1);
            for (int other : numbers((form + 1) % 3, (form + 2) % 3)) {
                coded(SheetEdges::forms, x -> x.put(told, other, 0, 5), 2);
                coded(SheetEdges::forms, x -> x.put(told, other, -1, 5), 2);
                coded(SheetEdges::forms, x -> x.put(told, other, 2, 5), 2);
            }
            for (int i : numbers(-1, 2, 1100, MIN, MAX)) coded(SheetEdges::forms, x -> x.put(told, told, i, 5), 3);
        }
        coded(x -> x.sheet(0, 0, 0), x -> x.put(0, 0, 0, 5), 3);
        taken(x -> x.sheet(0, 0, 1100), x -> x.put(0, 0, 1099, 5), 5);
        coded(x -> x.sheet(0, 0, 1100), x -> x.put(0, 0, 1100, 5), 3);
        says(5, "(What is told may be as a refusal is.)");
        for (int v : numbers(UNKNOWN, OUTSIDE, NONE)) {
            putIn(1, v, v);
            putIn(2, v, v);
        }
        putIn(2, 0, 0);
    }

    private static void at() {
        says(6, "The number at place i of SHEET s.");
        for (int s = 0; s < 3; s++) {
            int number = s;
            for (int i = 0; i < 2; i++) {
                int place = i;
                taken(SheetEdges::forms, x -> x.at(number, place), 11 + i);
                Real x = Scenes.real(SheetEdges::forms);
                x.at(s, i);
                dueSame(x);
            }
        }
        taken(x -> x.sheet(3, 2, 1100), x -> x.at(3, 1099), 0);
        says(6, "UNKNOWN.");
        for (int s : numbers(-1, 4, MIN, MAX)) {
            refused(SheetEdges::forms, x -> x.at(s, 0), UNKNOWN);
            refused(SheetEdges::forms, x -> x.at(s, -1), UNKNOWN);
        }
        says(6, "CODES 1, 3.");
        for (int i : numbers(-1, 0, 1, 2, MIN, MAX)) {
            coded(SheetEdges::forms, x -> x.at(3, i), 1);
            coded(NEW, x -> x.at(0, i), 1);
        }
        for (int i : numbers(-1, 2, 1100, MIN, MAX)) {
            for (int s = 0; s < 3; s++) {
                int number = s;
                coded(SheetEdges::forms, x -> x.at(number, i), 3);
            }
        }
        coded(x -> x.sheet(0, 0, 0), x -> x.at(0, 0), 3);
        coded(x -> x.sheet(3, 2, 1100), x -> x.at(3, 1100), 3);
        coded(then(x -> x.sheet(0, 2, 9), x -> x.sheet(0, 2, 1)), x -> x.at(0, 1), 3);
        says(6, "(What is told may be as a refusal is.)");
        for (int v : numbers(UNKNOWN, OUTSIDE, NONE, 0)) {
            taken(then(SheetEdges::forms, x -> x.put(2, 2, 1, v)), x -> x.at(2, 1), v);
        }
    }

    /** To look at a number changes nothing but CODE. */
    private static void dueSame(Real x) {
        for (int s = 0; s < 3; s++) {
            due(x, x.at(s, 0), 11);
            due(x, x.at(s, 1), 12);
        }
    }

    public static void main(String[] args) {
        newObject();
        things();
        sheet();
        tear();
        put();
        at();
        end(1, 6);
    }
}
