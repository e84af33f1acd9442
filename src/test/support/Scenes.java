/**
 * Objects in the midst of their work, so that what a call changes can be seen. In all of them but the large ones the WORTHS
 * 0 to 5 are of the KIND of their number, 6 is TOLD, 7 a PART of it and 8 BEYOND it. A call here that is refused, as there
 * are too few THINGS for it, does no harm.
 */
final class Scenes {
    private Scenes() { }

    interface Scene {
        void on(Bench x);
    }

    static Real real(Scene scene) {
        Real x = new Real();
        scene.on(x);
        return x;
    }

    /** SHEET 0 is one place too short to be read, 1 just long enough, 2 longer, with a number too far away, 3 nothing. */
    static void layOutSheets(Bench x, int things) {
        int sets = 1 << things;
        x.sheet(0, 0, sets - 1);
        x.put(0, 0, 1, -9);
        x.sheet(1, 1, sets);
        x.put(1, 1, 0, 7000000);
        x.put(1, 1, 1, 1000000);
        x.put(1, 1, sets - 1, -1000000);
        x.sheet(2, 2, sets + 1);
        x.put(2, 2, sets - 1, 1000001);
        x.put(2, 2, sets, 1000002);
        x.sheet(3, 0, 2);
        x.put(3, 0, 1, 5);
        x.tear(3);
    }

    private static void tellWhatTheyAre(Bench x, int things) {
        int all = (1 << things) - 1;
        x.tell(0, all, 7);
        x.tell(0, 1, -3);
        x.tell(0, 2, 4);
        x.line(1, 0, 1, 5);
        x.line(1, things - 1, 0, 3);
        x.spot(2, 6, 1);
        x.spot(2, 2, all);
        x.row(3, 0, 1, 2, 3, 4);
        x.row(3, 1, 2, 4, 6, 8);
        x.row(3, things - 1, 0, 1, 0, -1);
        x.rise(4, 9);
        x.rise(4, -2);
        x.price(5, 0, -8);
        x.price(5, things - 1, 11);
    }

    private static void moveOrderAndShares(Bench x, int things) {
        x.order(things - 1, 0);
        x.order(0, 1);
        x.mix(0, 2, 3);
        x.share(0, -40);
    }

    /** WORTHS 0 to 5 are not HELD, and there is room for three WORTHS more. */
    static void free(Bench x, int things) {
        x.things(things);
        layOutSheets(x, things);
        for (int kind = 0; kind < 5; kind++) x.worth(kind);
        x.sum();
        tellWhatTheyAre(x, things);
        x.worth(0);
        x.tell(6, (1 << things) - 1, -20);
        x.tell(6, 2, 30);
        x.part(6, 3 & (1 << things) - 1);
        x.beyond(6, 1 << things >> 1);
        moveOrderAndShares(x, things);
    }

    static void free(Bench x) {
        free(x, 3);
    }

    /** WORTHS 0 to 9 are HELD, and there is no room for more WORTHS. */
    static void held(Bench x, int things) {
        free(x, things);
        x.sum();
        for (int p = 0; p < 4; p++) x.add(9, p, p);
        x.sum();
        for (int p = 6; p < 10; p++) x.add(10, p, 1);
        x.sum();
        x.add(11, 4, 1);
        x.add(11, 5, 1);
    }

    static void held(Bench x) {
        held(x, 3);
    }

    // No call of these scenes meets what it is full of: a fault in a refusal shows in the test of it alone.
    private static void fillPieces(Bench x) {
        int all = (1 << x.count(0, 0)) - 1;
        for (int i = x.count(2, 1); i < 24; i++) x.line(1, 0, 1, 2);
        for (int i = x.count(3, 2); i < 24; i++) x.spot(2, 3, all);
        for (int i = x.count(4, 4); i < 10; i++) x.rise(4, -5);
        for (int i = x.count(5, 5); i < 4; i++) x.add(5, 3, 0);
    }

    private static void fillWorths(Bench x) {
        for (int w = x.count(1, 0); w < 12; w++) x.worth(0);
    }

    /** Nothing more of anything has room: LINES in 1, SPOTS in 2, RISES in 4, WORTHS in SUM 5, WORTHS in all. RANK 3 is HELD. */
    static void full(Bench x, int things) {
        free(x, things);
        fillPieces(x);
        fillWorths(x);
    }

    static void full(Bench x) {
        full(x, 3);
    }

    /** As full(), and all that is full is HELD. */
    static void fullAndHeld(Bench x) {
        free(x);
        fillPieces(x);
        x.sum();
        for (int p : new int[] {1, 2, 4, 5}) x.add(9, p, 0);
        fillWorths(x);
    }

    /**
     * Two THINGS. SUM 3 is worth 10^12 with THING 0, - 10^12 with THING 1, and 10^6 with both, and so is SUM 4. SUM 5 is as
     * PRICES of 1 and -1 say. The share of THING 0 is 10^15, that of THING 1 - 10^15, by 1000.
     */
    static void large(Bench x) {
        x.things(2);
        layOutSheets(x, 2);
        pileUp(x);
    }

    /** As large(), but WORTH 0 is of no other one, and not HELD; so the numbers of the others are one more each. */
    static void largeBehindFree(Bench x) {
        x.things(2);
        layOutSheets(x, 2);
        x.worth(0);
        x.tell(0, 3, 5);
        pileUp(x);
    }

    private static void pileUp(Bench x) {
        int first = x.worth(0);
        x.tell(first, 1, 1000000);
        x.tell(first, 2, -1000000);
        x.tell(first, 3, 1);
        x.sum();
        for (int i = 0; i < 4; i++) x.add(first + 1, first, 100);
        x.sum();
        for (int i = 0; i < 2; i++) x.add(first + 2, first + 1, 100);
        x.sum();
        x.add(first + 3, first + 2, 12);
        x.add(first + 3, first + 1, 100);
        x.sum();
        x.add(first + 4, first + 3, 1);
        x.sum();
        x.price(first + 5, 0, 1);
        x.price(first + 5, 1, -1);
        x.share(0, 1000000000000L);
        x.share(1, -1000000000000L);
        x.mix(first, 1000, 0);
    }

    /** As large(), with no room for more WORTHS, nor for more of them in SUM 5. */
    static void largeAndFull(Bench x) {
        large(x);
        for (int i = 0; i < 4; i++) x.add(5, 0, 0);
        fillWorths(x);
    }
}
