/** The edges that the document names in promises 7 to 12: how WORTHS are made, and counted. */
public final class WorthEdges extends Check {
    private static final Scenes.Scene NEW = x -> { };

    /** Eleven WORTHS of two THINGS; so just one more has room. */
    private static void eleven(Bench x) {
        x.things(2);
        for (int w = 0; w < 11; w++) x.worth(w % 5);
        x.tell(0, 3, 8);
    }

    /** WORTH 0 is BENT: each of ten THINGS is worth 1. */
    private static void tenAlike(Bench x) {
        x.things(10);
        x.worth(4);
        x.rise(0, 1);
    }

    private static void dueNothingTold(Real x, int w, int kind, int things) {
        due(x, x.kind(w), kind);
        for (int set = 0; set < 1 << things; set++) due(x, x.value(w, set), 0);
        for (int what = 2; what < 7; what++) due(x, x.count(what, w), 0);
        due(x, x.count(1, 0), w + 1);
    }

    private static void worth() {
        says(7, "A WORTH of KIND 0 .. 4, nothing told: its number.");
        for (int k = 0; k < 5; k++) {
            int kind = k;
            dueNothingTold(done(NEW, x -> x.worth(kind), 0), 0, k, 0);
            dueNothingTold(done(Scenes::free, x -> x.worth(kind), 9), 9, k, 3);
            dueNothingTold(done(WorthEdges::eleven, x -> x.worth(kind), 11), 11, k, 2);
            for (int old = 0; old < 12; old++) dueNothingOfTheOld(k, old);
        }
        dueNoOldRows();
        says(7, "OUTSIDE, FULL.");
        for (int kind : numbers(-1, 5, 6, 7, 8, MIN, MAX)) {
            refused(NEW, x -> x.worth(kind), OUTSIDE);
            refused(Scenes::free, x -> x.worth(kind), OUTSIDE);
            refused(Scenes::full, x -> x.worth(kind), OUTSIDE);
        }
        for (int k = 0; k < 5; k++) {
            int kind = k;
            refused(Scenes::full, x -> x.worth(kind), FULL);
            refused(then(WorthEdges::eleven, x -> x.worth(0)), x -> x.worth(kind), FULL);
        }
        done(then(Scenes::full, x -> x.things(1)), x -> x.worth(0), 0);
    }

    /** A new WORTH has nothing of what had its number before things(). */
    private static void dueNothingOfTheOld(int kind, int number) {
        Real x = Scenes.real(then(Scenes::full, y -> {
            y.things(3);
            for (int w = 0; w < number; w++) y.worth(0);
        }));
        due(x, x.worth(kind), number);
        dueNothingTold(x, number, kind, 3);
        if (kind == 3) {
            due(x, x.row(number, 2, 0, 0, 0, 0), 1);
            due(x, x.value(number, 7), 0);
        }
        if (kind == 4) {
            due(x, x.rise(number, 10000), 1);
            due(x, x.value(number, 7), 30000);
        }
    }

    /** The rows of a RANK are 0 anew for each of ten THINGS, and in each of their places. */
    private static void dueNoOldRows() {
        for (int t = 0; t < 10; t++) {
            for (int place = 0; place < 4; place++) {
                Real x = new Real();
                for (int turn = 0; turn < 2; turn++) {
                    x.things(10);
                    x.worth(3);
                    if (turn == 0) x.row(0, t, place == 0 ? 9 : 0, place == 1 ? 9 : 0, place == 2 ? 9 : 0, place == 3 ? 9 : 0);
                    int other = t == 0 ? 1 : 0;
                    x.row(0, other, 0, 0, 0, 0);
                    due(x, x.value(0, 1 << t | 1 << other), 1 - turn);
                }
            }
        }
    }

    private static void sum() {
        says(8, "SUM of nothing, PRICES 0: its number.");
        dueNothingTold(done(NEW, Bench::sum, 0), 0, 5, 0);
        Real x = done(Scenes::free, Bench::sum, 9);
        dueNothingTold(x, 9, 5, 3);
        for (int t = 0; t < 3; t++) due(x, x.price(9, t, 1), 0);
        dueNothingTold(done(WorthEdges::eleven, Bench::sum, 11), 11, 5, 2);
        Real anew = done(then(Scenes::full, y -> {
            y.things(3);
            for (int w = 0; w < 5; w++) y.worth(0);
        }), Bench::sum, 5);
        dueNothingTold(anew, 5, 5, 3);
        for (int t = 0; t < 3; t++) due(anew, anew.price(5, t, 1), 0);
        says(8, "FULL.");
        refused(Scenes::full, Bench::sum, FULL);
        refused(then(WorthEdges::eleven, Bench::sum), Bench::sum, FULL);
    }

    private static void part() {
        says(9, "PART of WORTH w and a SET: its number.");
        for (int set = 0; set < 4; set++) {
            int a = set;
            Real x = done(WorthEdges::eleven, y -> y.part(0, a), 11);
            due(x, x.kind(11), 6);
            due(x, x.count(6, 0), 1);
            for (int s = 0; s < 4; s++) due(x, x.value(11, s), s == 3 && a == 3 ? 8 : 0);
        }
        done(WorthEdges::eleven, x -> x.part(10, 0), 11);
        done(then(NEW, x -> x.worth(0)), x -> x.part(0, 0), 1);
        Real ten = done(WorthEdges::tenAlike, x -> x.part(0, 1023), 1);
        due(ten, ten.value(1, 1023), 10);
        says(9, "UNKNOWN, FULL.");
        for (int w : numbers(-1, 9, 11, 12, MIN, MAX)) refused(Scenes::free, x -> x.part(w, 0), UNKNOWN);
        for (int set : numbers(-1, 8, 1023, MIN, MAX)) refused(Scenes::free, x -> x.part(0, set), UNKNOWN);
        refused(NEW, x -> x.part(0, 0), UNKNOWN);
        refused(then(Scenes::free, x -> x.things(3)), x -> x.part(0, 0), UNKNOWN);
        refused(WorthEdges::tenAlike, x -> x.part(0, 1024), UNKNOWN);
        refused(Scenes::full, x -> x.part(0, 7), FULL);
        refused(Scenes::full, x -> x.part(11, 0), FULL);
        for (int w : numbers(-1, 12)) refused(Scenes::full, x -> x.part(w, 0), UNKNOWN);
        for (int set : numbers(-1, 8)) refused(Scenes::full, x -> x.part(0, set), UNKNOWN);
    }

    /** SUM 3 is worth 10^6 times as much as these VALUES of the SETS 1, 2, ..; with THING 0 the price more. */
    private static Scenes.Scene million(int things, int price, int... values) {
        return then(told(things, values), x -> {
            x.sum();
            for (int i = 0; i < 4; i++) x.add(1, 0, 25);
            x.sum();
            for (int i = 0; i < 4; i++) x.add(2, 1, 25);
            x.sum();
            x.add(3, 2, 100);
            x.price(3, 0, price);
        });
    }

    private static void beyond() {
        says(10, "BEYOND WORTH w and a SET: its number.");
        for (int set = 0; set < 4; set++) {
            int a = set;
            Real x = done(WorthEdges::eleven, y -> y.beyond(0, a), 11);
            due(x, x.kind(11), 7);
            due(x, x.count(6, 0), 1);
            for (int s = 0; s < 4; s++) due(x, x.value(11, s), a != 3 && (s | a) == 3 ? 8 : 0);
        }
        done(WorthEdges::eleven, x -> x.beyond(10, 3), 11);
        done(then(NEW, x -> x.worth(0)), x -> x.beyond(0, 0), 1);
        Real ten = done(WorthEdges::tenAlike, x -> x.beyond(0, 512), 1);
        due(ten, ten.value(1, 1023), 9);
        done(WorthEdges::tenAlike, x -> x.beyond(0, 1023), 1);
        says(10, "UNKNOWN, FULL, LARGE.");
        for (int w : numbers(-1, 9, 11, 12, MIN, MAX)) refused(Scenes::free, x -> x.beyond(w, 0), UNKNOWN);
        for (int set : numbers(-1, 8, 1023, MIN, MAX)) refused(Scenes::free, x -> x.beyond(0, set), UNKNOWN);
        refused(NEW, x -> x.beyond(0, 0), UNKNOWN);
        refused(WorthEdges::tenAlike, x -> x.beyond(0, 1024), UNKNOWN);
        refused(Scenes::full, x -> x.beyond(0, 7), FULL);
        for (int w : numbers(-1, 12)) refused(Scenes::full, x -> x.beyond(w, 0), UNKNOWN);
        for (int set : numbers(-1, 8)) refused(Scenes::full, x -> x.beyond(0, set), UNKNOWN);
        refused(Scenes::large, x -> x.beyond(4, 2), LARGE);
        refused(Scenes::largeBehindFree, x -> x.beyond(5, 2), LARGE);
        refused(Scenes::large, x -> x.beyond(4, 4), UNKNOWN);
        refused(Scenes::largeAndFull, x -> x.beyond(4, 2), FULL);
        refused(Scenes::largeAndFull, x -> x.beyond(4, 4), UNKNOWN);
        largeBeyond();
    }

    private static void largeBeyond() {
        says(0, "LARGE: some VALUE of it would be above 10^12 in size.");
        dueBeyond(million(2, 0, 0, -1000000, 0), TRILLION);
        dueBeyond(million(2, -1, 0, -1000000, 0), TRILLION - 1);
        refused(million(2, 1, 0, -1000000, 0), x -> x.beyond(3, 2), LARGE);
        dueBeyond(million(2, 0, 0, 1000000, 0), -TRILLION);
        dueBeyond(million(2, 1, 0, 1000000, 0), -TRILLION + 1);
        refused(million(2, -1, 0, 1000000, 0), x -> x.beyond(3, 2), LARGE);
        refused(million(2, 0, 0, -1000000, 1000000), x -> x.beyond(3, 2), LARGE);
        refused(million(2, 0, 0, 1000000, -1000000), x -> x.beyond(3, 2), LARGE);
        // With all THINGS it is not too much, but with THING 0 alone.
        refused(million(3, 0, 0, -1000000, 1), x -> x.beyond(3, 2), LARGE);
        refused(million(3, 0, 0, 1000000, -1), x -> x.beyond(3, 2), LARGE);
        done(million(3, 0, 0, -1000000, 0), x -> x.beyond(3, 2), 4);
        done(million(3, 0, 0, -1000000, 1), x -> x.beyond(3, 0), 4);
    }

    private static void dueBeyond(Scenes.Scene scene, long value) {
        Real x = done(scene, y -> y.beyond(3, 2), 4);
        due(x, x.value(4, 1), value);
        due(x, x.count(6, 3), 1);
    }

    private static void kind() {
        says(11, "KIND of WORTH w.");
        int[] kinds = {0, 1, 2, 3, 4, 5, 0, 6, 7};
        for (int w = 0; w < 9; w++) {
            int number = w;
            asks(Scenes::free, x -> x.kind(number), kinds[w]);
        }
        asks(Scenes::full, x -> x.kind(11), 0);
        says(11, "UNKNOWN.");
        for (int w : numbers(-1, 9, 12, MIN, MAX)) refused(Scenes::free, x -> x.kind(w), UNKNOWN);
        for (int w : numbers(-1, 12)) refused(Scenes::full, x -> x.kind(w), UNKNOWN);
        refused(NEW, x -> x.kind(0), UNKNOWN);
        refused(then(Scenes::free, x -> x.things(3)), x -> x.kind(0), UNKNOWN);
    }

    private static void count() {
        says(12, "0 THINGS, 1 WORTHS");
        asks(NEW, x -> x.count(0, 0), 0);
        asks(NEW, x -> x.count(1, 0), 0);
        asks(x -> x.things(10), x -> x.count(0, 0), 10);
        asks(Scenes::full, x -> x.count(1, 0), 12);
        says(12, "of WORTH w: 2 LINES, 3 SPOTS, 4 RISES, 5 WORTHS of a SUM (0 of others), 6 whether it is HELD");
        for (int what = 2; what < 7; what++) {
            int asked = what;
            int[] pieces = {0, 24, 24, 0, 10, 4, 0, 0, 0, 0, 0, 0};
            int[] held = {0, 0, 0, 1, 0, 0, 1, 0, 0, 0, 0, 0};
            int[] from = {-1, 2, 3, -1, 4, 5, -1, -1, -1, -1, -1, -1};
            for (int w = 0; w < 12; w++) {
                int number = w;
                asks(Scenes::full, x -> x.count(asked, number), what == 6 ? held[w] : from[w] == what ? pieces[w] : 0);
            }
        }
        says(12, "OUTSIDE ahead of UNKNOWN");
        for (int what : numbers(-1, 7, MIN, MAX)) {
            for (int w : numbers(0, -1, 9, MIN, MAX)) refused(Scenes::free, x -> x.count(what, w), OUTSIDE);
            refused(NEW, x -> x.count(what, 0), OUTSIDE);
        }
        says(12, "w is looked at in 2 to 6 alone");
        for (int w : numbers(-1, 9, 12, MIN, MAX)) {
            asks(Scenes::free, x -> x.count(0, w), 3);
            asks(Scenes::free, x -> x.count(1, w), 9);
            for (int what = 2; what < 7; what++) {
                int asked = what;
                refused(Scenes::free, x -> x.count(asked, w), UNKNOWN);
            }
        }
        for (int what = 2; what < 7; what++) {
            int asked = what;
            refused(NEW, x -> x.count(asked, 0), UNKNOWN);
            refused(Scenes::full, x -> x.count(asked, 12), UNKNOWN);
        }
    }

    private static void held() {
        says(0, "A WORTH of which another one is made is HELD");
        for (int w = 0; w < 9; w++) {
            int number = w;
            for (Call hold : new Call[] {x -> x.part(number, 0), x -> x.beyond(number, 7), x -> holdBySum(x, number)}) {
                Real x = Scenes.real(Scenes::free);
                due(x, x.count(6, number), number == 6 ? 1 : 0);
                hold.on(x);
                due(x, x.count(6, number), 1);
                due(x, x.count(6, 9), 0);
            }
        }
    }

    private static long holdBySum(Bench x, int w) {
        x.sum();
        return x.add(9, w, 0);
    }

    public static void main(String[] args) {
        worth();
        sum();
        part();
        beyond();
        kind();
        count();
        held();
        end(7, 12);
    }
}
