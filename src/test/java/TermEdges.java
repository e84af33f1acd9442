/** The edges that the document names in "What it is" and in "Terms", where no promise tells them alone. */
public final class TermEdges extends Check {
    /** A call in each of the ways in which an object can be asked or changed. */
    private static final Call[] LAST = {
        x -> x.things(4), x -> x.sheet(0, 0, 1100), x -> x.tear(0), x -> x.put(1, 1, 7, 5), x -> x.at(1, 7), x -> x.worth(4),
        Bench::sum, x -> x.part(5, 6), x -> x.beyond(5, 6), x -> x.kind(8), x -> x.count(6, 6), x -> x.tell(0, 5, 6),
        x -> x.read(0, 1), x -> x.line(1, 2, 1, 4), x -> x.spot(2, 4, 6), x -> x.row(3, 1, 9, 9, 9, 9), x -> x.rise(4, -6),
        x -> x.add(5, 4, 3), x -> x.price(5, 2, 4), Bench::code, x -> x.value(5, 7), x -> x.adds(5, 3, 2), x -> x.falls(0),
        x -> x.why(0, 0), x -> x.least(0), x -> x.all(0, 3), x -> x.one(0, 0), x -> x.level(0, 2), x -> x.bends(0),
        x -> x.bend(0, 0, 0), x -> x.order(2, 1), x -> x.corner(0), x -> x.mix(0, 2, 1), x -> x.share(1, 4), x -> x.shareOf(0),
        x -> x.in(0), x -> x.proves(0), x -> x.greed(0, 3), x -> x.best(0, 3), x -> x.sheet(0, 0, -1), x -> x.tell(0, 8, 1),
    };

    private static void lastCall() {
        says(0, "An object is used for at most 512 calls after it has been made");
        for (Call call : LAST) {
            Real x = Scenes.real(Scenes::free);
            Model model = new Model();
            Scenes.free(model);
            for (int i = 0; x.calls() < Real.MOST_CALLS - 1; i++) {
                x.tell(0, 1 + i % 7, i);
                model.tell(0, 1 + i % 7, i);
            }
            due(x, call.on(x), call.on(model));
            due(x, x.calls(), 512);
        }
        Real x = Scenes.real(made(10, 0, y -> { }));
        for (int set = 1; set <= 509; set++) x.tell(0, set, 1000000 - set);
        due(x, x.value(0, 509), 999491);
        due(x, x.calls(), 512);
        longRuns();
    }

    /** All of an object's calls of one sort: nothing runs full that the document does not say. */
    private static void longRuns() {
        Real sheets = new Real();
        for (int i = 0; i < 256; i++) {
            due(sheets, sheets.sheet(i % 4, i % 3, 1100), 1100);
            due(sheets, sheets.tear(i % 4), 1);
        }
        Real things = new Real();
        for (int i = 0; i < 256; i++) {
            due(things, things.things(10), i == 0 ? 0 : 1);
            due(things, things.worth(i % 5), 0);
        }
        Real worths = new Real();
        for (int round = 0; round < 39; round++) {
            due(worths, worths.things(10), round == 0 ? 0 : 12);
            for (int w = 0; w < 12; w++) due(worths, worths.worth(w % 5), w);
        }
        Real mixed = Scenes.real(told(1, 1));
        for (int i = 0; i < 500; i++) due(mixed, mixed.mix(0, 1, 1), i + 2);
    }

    private static void sets() {
        says(0, "THINGS: 0 to 10 (0 at first). A SET is a whole number: bit k for THING k; 0 to 2^THINGS - 1. ALL is the last SET.");
        for (int n = 0; n <= 10; n++) {
            int things = n, all = (1 << n) - 1;
            Scenes.Scene scene = x -> {
                x.things(things);
                x.worth(4);
                x.rise(0, 1);
            };
            asks(scene, x -> x.value(0, 0), 0);
            asks(scene, x -> x.value(0, all), n);
            refused(scene, x -> x.value(0, all + 1), UNKNOWN);
            refused(scene, x -> x.value(0, -1), UNKNOWN);
            for (int t = 0; t < n; t++) {
                int thing = t;
                asks(scene, x -> x.value(0, 1 << thing), 1);
                asks(scene, x -> x.adds(0, all - (1 << thing), thing), 1);
            }
            refused(scene, x -> x.adds(0, 0, things), UNKNOWN);
            if (n > 0) asks(scene, x -> x.in(0), all);
        }
    }

    private static void kinds() {
        says(0, "A WORTH (12 at most) tells each SET a number, its VALUE; that of 0 is 0.");
        for (int w = 0; w < 12; w++) {
            int number = w;
            asks(Scenes::held, x -> x.value(number, 0), 0);
            asks(Scenes::full, x -> x.value(number, 0), 0);
        }
        refused(Scenes::held, x -> x.value(12, 0), UNKNOWN);
        says(0, "0 TOLD: each SET's VALUE as it was told (0 at first).");
        dueValues(told(2), 0, 0, 0, 0);
        dueValues(told(2, 0, 3), 0, 0, 3, 0);
        says(0, "1 CUT: the sum of the widths of its LINES that go from a THING in the SET to one that is not.");
        dueValues(made(2, 1, x -> { }), 0, 0, 0, 0);
        dueValues(made(2, 1, x -> x.line(0, 0, 1, 10000)), 0, 10000, 0, 0);
        dueValues(made(2, 1, x -> x.line(0, 1, 0, 10000)), 0, 0, 10000, 0);
        dueValues(made(2, 1, x -> {
            x.line(0, 0, 1, 1);
            x.line(0, 0, 1, 2);
            x.line(0, 1, 0, 4);
        }), 0, 3, 4, 0);
        dueValues(made(2, 1, x -> {
            for (int i = 0; i < 25; i++) x.line(0, 0, 1, 10000);
        }), 0, 240000, 0, 0);
        says(0, "2 COVER: the sum of the weights of those of its SPOTS that some THING of the SET covers.");
        dueValues(made(2, 2, x -> x.spot(0, 10000, 0)), 0, 0, 0, 0);
        dueValues(made(2, 2, x -> x.spot(0, 10000, 3)), 0, 10000, 10000, 10000);
        dueValues(made(2, 2, x -> x.spot(0, 10000, 2)), 0, 0, 10000, 10000);
        dueValues(made(2, 2, x -> {
            for (int i = 0; i < 25; i++) x.spot(0, 10000, 1 + i % 2);
        }), 0, 120000, 120000, 240000);
        says(0, "4 BENT: the sum of its first RISES, as many as the SET has THINGS.");
        dueValues(made(2, 4, x -> { }), 0, 0, 0, 0);
        dueValues(made(2, 4, x -> {
            x.rise(0, 10000);
            x.rise(0, -10000);
            x.rise(0, -10000);
        }), 0, 10000, 10000, 0);
    }

    private static Scenes.Scene made(int things, int kind, Scenes.Scene more) {
        return then(x -> {
            x.things(things);
            x.worth(kind);
        }, more);
    }

    private static void dueValues(Scenes.Scene scene, long... values) {
        Real x = Scenes.real(scene);
        for (int set = 0; set < values.length; set++) due(x, x.value(x.count(1, 0) - 1, set), values[set]);
    }

    private static void rank() {
        says(0, "3 RANK: each THING has a row of 4 whole numbers (0 at first); how many of the SET's rows do not hang on others "
            + "(as rows of fractions).");
        dueValues(made(2, 3, x -> { }), 0, 0, 0, 0);
        dueValues(made(2, 3, x -> x.row(0, 1, 0, 0, 0, -1)), 0, 0, 1, 1);
        dueValues(made(2, 3, x -> {
            x.row(0, 0, 2, 4, 6, 8);
            x.row(0, 1, 3, 6, 9, 12);
        }), 0, 1, 1, 1);
        dueValues(made(2, 3, x -> {
            x.row(0, 0, 99, 98, 97, 96);
            x.row(0, 1, -99, -98, -97, -95);
        }), 0, 1, 1, 2);
        dueValues(made(3, 3, x -> {
            x.row(0, 0, 1, 1, 0, 0);
            x.row(0, 1, 0, 1, 1, 0);
            x.row(0, 2, 1, 0, -1, 0);
        }), 0, 1, 1, 2, 1, 2, 2, 2);
        // Rows of the largest numbers, the last one half of what the two ahead of it are in all, or almost.
        asks(fourRows(99, 0), x -> x.value(0, 15), 3);
        asks(fourRows(99, 1), x -> x.value(0, 15), 4);
        asks(fourRows(-99, 0), x -> x.value(0, 15), 3);
        asks(fourRows(-99, 1), x -> x.value(0, 15), 4);
        Scenes.Scene ten = made(10, 3, x -> {
            for (int t = 0; t < 10; t++) x.row(0, t, t == 0 ? 1 : 0, t == 3 ? 1 : 0, t == 6 ? 1 : 0, t == 9 ? 1 : 0);
        });
        asks(ten, x -> x.value(0, 1023), 4);
        asks(ten, x -> x.value(0, 1022), 3);
        asks(ten, x -> x.value(0, 511), 3);
        asks(ten, x -> x.value(0, 1023 - 585), 0);
        asks(ten, x -> x.value(0, 585), 4);
    }

    private static Scenes.Scene fourRows(int v, int off) {
        return made(4, 3, x -> {
            x.row(0, 0, v, v, v, v);
            x.row(0, 1, v, -v, v, -v);
            x.row(0, 2, v, v, -v, -v);
            x.row(0, 3, v, 0, 0, v < 0 ? -v - off : -v + off);
        });
    }

    private static void madeOfOthers() {
        says(0, "5 SUM: of up to 4 WORTHS ahead of it, each times its factor, and of PRICES of the SET's THINGS.");
        dueValues(then(told(2, 1, 10, 100), Bench::sum), 0, 0, 0, 0);
        dueValues(then(told(2, 1, 10, 100), x -> {
            x.sum();
            x.price(1, 0, -100000);
            x.price(1, 1, 100000);
        }), 0, -100000, 100000, 0);
        dueValues(then(told(2, 1, 10, 100), x -> {
            x.worth(4);
            x.rise(1, 7);
            x.sum();
            x.add(2, 0, 100);
            x.add(2, 1, 1);
            x.add(2, 0, 0);
            x.add(2, 0, 2);
            x.add(2, 0, 50);
            x.price(2, 1, 3);
        }), 0, 109, 1030, 10217);
        says(0, "6 PART of a WORTH ahead of it and a SET A: the VALUE there of what is in the SET and in A.");
        dueValues(then(told(2, 1, 10, 100), x -> x.part(0, 0)), 0, 0, 0, 0);
        dueValues(then(told(2, 1, 10, 100), x -> x.part(0, 1)), 0, 1, 0, 1);
        dueValues(then(told(2, 1, 10, 100), x -> x.part(0, 3)), 0, 1, 10, 100);
        says(0, "7 BEYOND a WORTH ahead of it and a SET A: the VALUE there of what is in the SET or in A, less that of A.");
        dueValues(then(told(2, 1, 10, 100), x -> x.beyond(0, 0)), 0, 1, 10, 100);
        dueValues(then(told(2, 1, 10, 100), x -> x.beyond(0, 1)), 0, 0, 99, 99);
        dueValues(then(told(2, 1, 10, 100), x -> x.beyond(0, 3)), 0, 0, 0, 0);
        dueValues(then(told(0), x -> x.beyond(0, 0)), 0);
        dueValues(then(told(0), x -> x.part(0, 0)), 0);
    }

    private static void atFirst() {
        says(0, "SHEETS 0 .. 3 are nothing (at first), or rows of a FORM: 0 bytes, 1 ints, 2 longs, "
            + "with places for numbers (0 at first).");
        for (int s = 0; s < 4; s++) {
            int number = s;
            coded(x -> { }, x -> x.at(number, 0), 1);
            coded(x -> { }, x -> x.put(number, 0, 0, 1), 1);
            coded(made(1, 0, x -> { }), x -> x.read(0, number), 1);
            done(x -> { }, x -> x.tear(number), 0);
            for (int form = 0; form < 3; form++) {
                int told = form;
                taken(x -> x.sheet(number, told, 1), x -> x.at(number, 0), 0);
            }
        }
        says(0, "THE SHARES are a number for each THING (0 at first), all by THE BOTTOM (1 at first).");
        for (int n = 0; n <= 10; n++) {
            int things = n;
            asks(x -> x.things(things), x -> x.shareOf(NONE), 1);
            for (int t = 0; t < n; t++) {
                int thing = t;
                asks(x -> x.things(things), x -> x.shareOf(thing), 0);
            }
        }
    }

    public static void main(String[] args) {
        lastCall();
        sets();
        kinds();
        rank();
        madeOfOthers();
        atFirst();
        end(0, 0);
    }
}
