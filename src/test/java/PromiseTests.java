/** For each promise of the document its ordinary answers, its edges, and what it refuses. */
public final class PromiseTests {
    private static final int NONE = -1, UNKNOWN = -1001, OUTSIDE = -1002, NOT = -1003, FULL = -1004, LARGE = -1005;
    private static final int MIN = Integer.MIN_VALUE, MAX = Integer.MAX_VALUE;
    private static int promise, checks, wrong;

    private static void due(String call, long got, long want) {
        checks++;
        if (got != want) {
            wrong++;
            System.out.println("promise " + promise + ": " + call + " answered " + got + ", due is " + want);
        }
    }

    private static FallingGains withThings(int n) {
        FallingGains x = new FallingGains();
        x.things(n);
        return x;
    }

    /** WORTH 0 is TOLD, with these VALUES of the SETS 1, 2, .. */
    private static FallingGains told(int n, int... values) {
        FallingGains x = withThings(n);
        x.worth(0);
        for (int i = 0; i < values.length; i++) x.tell(0, i + 1, values[i]);
        return x;
    }

    /** Leaves CODE at 1, so that a call that sets it to 0, or must leave it, can be told apart. */
    private static void spoilCode(FallingGains x) {
        x.tear(3);
        x.at(3, 0);
        due("code() of a torn sheet", x.code(), 1);
    }

    /** WORTH 0 is TOLD with one THING worth 10^6, WORTH 1 its SUM of 4 * 10^8, WORTH 2 a SUM of 8 * 10^10. */
    private static FallingGains tower(int first) {
        FallingGains x = told(1, first);
        x.sum();
        for (int i = 0; i < 4; i++) x.add(1, 0, 100);
        x.sum();
        x.add(2, 1, 100);
        x.add(2, 1, 100);
        return x;
    }

    private static void fillUp(FallingGains x) {
        for (int w = x.count(1, 0); w < 12; w++) x.worth(0);
    }

    private static void newObject() {
        FallingGains x = new FallingGains();
        due("things", x.count(0, 0), 0);
        due("worths", x.count(1, 0), 0);
        due("code", x.code(), 0);
        for (int s = 0; s < 4; s++) due("tear", x.tear(s), 0);
        due("bottom", x.shareOf(NONE), 1);
        due("no share", x.shareOf(0), UNKNOWN);
        due("no worth", x.kind(0), UNKNOWN);
        due("constants", FallingGains.NONE, NONE);
        due("constants", FallingGains.UNKNOWN, UNKNOWN);
        due("constants", FallingGains.OUTSIDE, OUTSIDE);
        due("constants", FallingGains.NOT, NOT);
        due("constants", FallingGains.FULL, FULL);
        due("constants", FallingGains.LARGE, LARGE);
    }

    private static void things() {
        FallingGains x = new FallingGains();
        due("none before", x.things(10), 0);
        x.worth(0);
        x.worth(1);
        for (int n : new int[] {-1, 11, MIN, MAX}) due("refused", x.things(n), OUTSIDE);
        due("still 10", x.count(0, 0), 10);
        due("still 2", x.count(1, 0), 2);
        x.order(2, 0);
        x.share(1, 7);
        x.worth(4);
        x.rise(2, 5);
        x.mix(2, 1, 1);
        x.sheet(1, 0, 2);
        x.put(1, 0, 1, 6);
        spoilCode(x);
        due("three before", x.things(3), 3);
        due("things", x.count(0, 0), 3);
        due("worths", x.count(1, 0), 0);
        due("bottom as at first", x.shareOf(NONE), 1);
        for (int t = 0; t < 3; t++) due("share as at first", x.shareOf(t), 0);
        for (int t = 2; t >= 0; t--) due("order as at first", x.order(t, t), t);
        due("code stays", x.code(), 1);
        due("sheet stays", x.at(1, 1), 6);
        due("to none", x.things(0), 0);
        due("no thing", x.shareOf(0), UNKNOWN);
    }

    private static void sheet() {
        FallingGains x = new FallingGains();
        due("full", x.sheet(3, 2, 1100), 1100);
        due("last place", x.put(3, 2, 1099, 5), 5);
        due("none", x.sheet(0, 0, 0), 0);
        due("code", x.code(), 0);
        due("no place in it", x.at(0, 0), 0);
        due("code", x.code(), 3);
        for (int s : new int[] {-1, 4, MIN, MAX}) due("no sheet", x.sheet(s, 9, -1), UNKNOWN);
        for (int f : new int[] {-1, 3, MIN, MAX}) due("no form", x.sheet(3, f, -1), OUTSIDE);
        for (int n : new int[] {1101, MAX}) due("too many", x.sheet(3, 1, n), OUTSIDE);
        due("code stays", x.code(), 3);
        due("below 0", x.sheet(3, 1, -1), 0);
        due("code", x.code(), 4);
        due("far below 0", x.sheet(3, 1, MIN), 0);
        due("code", x.code(), 4);
        due("old row stays", x.at(3, 1099), 5);
        due("new row", x.sheet(3, 1, 1100), 1100);
        due("code", x.code(), 0);
        due("all 0", x.at(3, 1099), 0);
        due("its form", x.put(3, 1, 0, 8), 8);
        due("shorter", x.sheet(3, 1, 1), 1);
        due("0 again", x.at(3, 0), 0);
        due("no place", x.at(3, 1), 0);
        due("code", x.code(), 3);
    }

    private static void tear() {
        FallingGains x = new FallingGains();
        due("nothing", x.tear(0), 0);
        x.sheet(0, 0, 0);
        x.sheet(2, 1, 3);
        spoilCode(x);
        due("a row of no places", x.tear(0), 1);
        due("a row", x.tear(2), 1);
        due("torn already", x.tear(2), 0);
        due("code stays", x.code(), 1);
        for (int s : new int[] {-1, 4, MIN, MAX}) due("no sheet", x.tear(s), UNKNOWN);
        x.sheet(2, 1, 3);
        x.put(2, 1, 1, 9);
        x.tear(2);
        x.sheet(2, 1, 3);
        due("nothing of the old", x.at(2, 1), 0);
    }

    private static void put() {
        FallingGains x = new FallingGains();
        x.sheet(0, 0, 2);
        x.sheet(1, 1, 2);
        x.sheet(2, 2, 2);
        due("byte", x.put(0, 0, 1, 127), 127);
        due("byte", x.put(0, 0, 1, 128), -128);
        due("byte", x.put(0, 0, 1, -129), 127);
        due("byte", x.put(0, 0, 1, 0x1234567890L), -112);
        due("byte", x.put(0, 0, 1, 256), 0);
        due("int", x.put(1, 1, 1, 2147483648L), -2147483648L);
        due("int", x.put(1, 1, 1, 4294967297L), 1);
        due("int", x.put(1, 1, 0, -1002), OUTSIDE);
        due("long", x.put(2, 2, 1, Long.MIN_VALUE), Long.MIN_VALUE);
        due("long", x.put(2, 2, 0, Long.MAX_VALUE), Long.MAX_VALUE);
        due("there", x.at(2, 1), Long.MIN_VALUE);
        due("code", x.code(), 0);
        for (int s : new int[] {-1, 4, MIN, MAX}) due("no sheet", x.put(s, 9, 0, 1), UNKNOWN);
        for (int f : new int[] {-1, 3, MIN, MAX}) due("no form", x.put(3, f, 9, 1), OUTSIDE);
        due("code stays", x.code(), 0);
        due("no row", x.put(3, 0, 9, 1), 0);
        due("code", x.code(), 1);
        due("another form", x.put(2, 1, 9, 1), 0);
        due("code", x.code(), 2);
        for (int i : new int[] {-1, 2, MIN, MAX}) {
            due("no place", x.put(2, 2, i, 1), 0);
            due("code", x.code(), 3);
        }
        due("unchanged", x.at(2, 1), Long.MIN_VALUE);
        due("code again 0", x.code(), 0);
        x.tear(2);
        due("torn", x.put(2, 1, 0, 1), 0);
        due("code 1 ahead of 2", x.code(), 1);
    }

    private static void at() {
        FallingGains x = new FallingGains();
        x.sheet(1, 2, 3);
        due("0 at first", x.at(1, 2), 0);
        x.put(1, 2, 2, -1001);
        due("as a refusal is", x.at(1, 2), -1001);
        due("code", x.code(), 0);
        for (int s : new int[] {-1, 4, MIN, MAX}) due("no sheet", x.at(s, 0), UNKNOWN);
        for (int i : new int[] {-1, 3, MIN, MAX}) {
            due("no place", x.at(1, i), 0);
            due("code", x.code(), 3);
        }
        due("no row", x.at(0, 7), 0);
        due("code", x.code(), 1);
        due("refused", x.at(4, 0), UNKNOWN);
        due("code stays", x.code(), 1);
        due("fine", x.at(1, 0), 0);
        due("code", x.code(), 0);
    }

    private static void worth() {
        FallingGains x = withThings(2);
        spoilCode(x);
        for (int k = 0; k < 5; k++) {
            due("number", x.worth(k), k);
            due("kind", x.kind(k), k);
            due("nothing told", x.value(k, 3), 0);
        }
        due("code stays", x.code(), 1);
        for (int w = 5; w < 12; w++) due("number", x.worth(0), w);
        due("thirteenth", x.worth(0), FULL);
        for (int k : new int[] {-1, 5, 6, 7, 8, MIN, MAX}) due("no kind", x.worth(k), OUTSIDE);
        due("twelve", x.count(1, 0), 12);
        tellAllOfThem(x);
        x.things(2);
        for (int k = 0; k < 5; k++) {
            x.worth(k);
            for (int set = 0; set < 4; set++) due("nothing of the old", x.value(k, set), 0);
            due("not held", x.count(6, k), 0);
            for (int what = 2; what < 6; what++) due("no pieces", x.count(what, k), 0);
        }
        x.row(3, 0, 1, 0, 0, 0);
        due("other row is new", x.value(3, 3), 1);
        due("first rise is free", x.rise(4, 9), 1);
        x.things(10);
        x.worth(3);
        for (int t = 0; t < 10; t++) x.row(0, t, 1, 1, 1, 1);
        x.things(10);
        x.worth(3);
        for (int t = 9; t >= 0; t--) {
            x.row(0, t, 0, 0, 0, 0);
            due("rows of 0", x.value(0, 1023), 0);
        }
    }

    private static void tellAllOfThem(FallingGains x) {
        x.tell(0, 3, 7);
        x.line(1, 0, 1, 7);
        x.spot(2, 7, 3);
        x.row(3, 0, 1, 0, 0, 0);
        x.row(3, 1, 0, 1, 0, 0);
        x.rise(4, -7);
    }

    private static void sum() {
        FallingGains x = withThings(2);
        due("number", x.sum(), 0);
        due("kind", x.kind(0), 5);
        due("of nothing", x.count(5, 0), 0);
        due("value", x.value(0, 3), 0);
        due("price", x.price(0, 0, 5), 0);
        due("price", x.price(0, 1, 5), 0);
        for (int w = 1; w < 12; w++) due("number", x.sum(), w);
        due("thirteenth", x.sum(), FULL);
        x.things(2);
        due("anew", x.sum(), 0);
        due("price 0", x.price(0, 1, 1), 0);
        due("price 0", x.price(0, 0, 4), 0);
        due("value", x.value(0, 3), 5);
    }

    private static void part() {
        FallingGains x = told(3, 1, 2, 4, 8, 16, 32, 64);
        due("number", x.part(0, 5), 1);
        due("kind", x.kind(1), 6);
        int[] want = {0, 1, 0, 1, 8, 16, 8, 16};
        for (int set = 0; set < 8; set++) due("value", x.value(1, set), want[set]);
        due("held", x.count(6, 0), 1);
        due("itself not held", x.count(6, 1), 0);
        due("of 0", x.part(1, 0), 2);
        due("value", x.value(2, 7), 0);
        due("part of part", x.part(1, 6), 3);
        due("value", x.value(3, 7), 8);
        for (int w : new int[] {-1, 4, 12, MIN, MAX}) due("no worth", x.part(w, 0), UNKNOWN);
        for (int s : new int[] {-1, 8, MIN, MAX}) due("no set", x.part(0, s), UNKNOWN);
        due("still four", x.count(1, 0), 4);
        due("refused holds nothing", x.count(6, 3), 0);
        fillUp(x);
        due("full", x.part(3, 0), FULL);
        due("full holds nothing", x.count(6, 3), 0);
        due("unknown ahead of full", x.part(3, 8), UNKNOWN);
    }

    private static void beyond() {
        FallingGains x = told(3, 1, 2, 4, 8, 16, 32, 64);
        due("number", x.beyond(0, 2), 1);
        due("kind", x.kind(1), 7);
        int[] want = {0, 2, 0, 2, 30, 62, 30, 62};
        for (int set = 0; set < 8; set++) due("value", x.value(1, set), want[set]);
        due("held", x.count(6, 0), 1);
        due("beyond 0", x.beyond(1, 0), 2);
        due("value", x.value(2, 7), 62);
        due("beyond all", x.beyond(2, 7), 3);
        due("value", x.value(3, 7), 0);
        for (int w : new int[] {-1, 4, 12, MIN, MAX}) due("no worth", x.beyond(w, 0), UNKNOWN);
        for (int s : new int[] {-1, 8, MIN, MAX}) due("no set", x.beyond(0, s), UNKNOWN);
        largeBeyond(1, LARGE);
        largeBeyond(0, 4);
    }

    /** One THING is worth - 10^12, so that both of them are 10^12 beyond it, or more. */
    private static void largeBeyond(int both, int want) {
        FallingGains x = told(2, 0, -1000000, both);
        x.sum();
        for (int i = 0; i < 4; i++) x.add(1, 0, 50);
        x.sum();
        for (int i = 0; i < 2; i++) x.add(2, 1, 100);
        x.sum();
        due("just within", x.add(3, 2, 25), 1);
        due("10^12", x.value(3, 2), -1000000000000L);
        due("beyond", x.beyond(3, 2), want);
        due("held only if made", x.count(6, 3), want == LARGE ? 0 : 1);
        due("worths", x.count(1, 0), want == LARGE ? 4 : 5);
        if (want != LARGE) due("value", x.value(4, 1), 1000000000000L);
        fillUp(x);
        due("full ahead of large", x.beyond(3, 2), FULL);
        due("unknown ahead of full", x.beyond(3, 4), UNKNOWN);
    }

    private static void kind() {
        FallingGains x = withThings(1);
        for (int k = 0; k < 5; k++) x.worth(k);
        x.sum();
        x.part(0, 1);
        x.beyond(0, 1);
        for (int w = 0; w < 8; w++) due("kind", x.kind(w), w);
        for (int w : new int[] {-1, 8, 12, MIN, MAX}) due("no worth", x.kind(w), UNKNOWN);
    }

    private static void count() {
        FallingGains x = withThings(3);
        for (int k = 0; k < 5; k++) x.worth(k);
        x.sum();
        x.line(1, 0, 1, 1);
        x.spot(2, 1, 1);
        x.spot(2, 1, 1);
        x.rise(4, 3);
        x.rise(4, 2);
        x.rise(4, 1);
        x.add(5, 0, 0);
        x.add(5, 0, 1);
        int[][] want = {{0, 0, 0, 0, 1}, {1, 0, 0, 0, 0}, {0, 2, 0, 0, 0}, {0, 0, 0, 0, 0}, {0, 0, 3, 0, 0}, {0, 0, 0, 2, 0}};
        for (int w = 0; w < 6; w++) {
            for (int what = 2; what < 7; what++) due("count(" + what + ", " + w + ")", x.count(what, w), want[w][what - 2]);
        }
        for (int w : new int[] {-1, 6, MIN, MAX}) {
            due("things", x.count(0, w), 3);
            due("worths", x.count(1, w), 6);
            for (int what = 2; what < 7; what++) due("no worth", x.count(what, w), UNKNOWN);
            for (int what : new int[] {-1, 7, MIN, MAX}) due("no count", x.count(what, w), OUTSIDE);
        }
    }

    private static void tell() {
        FallingGains x = withThings(2);
        x.worth(0);
        x.worth(1);
        spoilCode(x);
        due("told", x.tell(0, 3, -1000000), 1);
        due("code", x.code(), 0);
        due("value", x.value(0, 3), -1000000);
        due("told anew", x.tell(0, 3, 1000000), 1);
        due("value", x.value(0, 3), 1000000);
        spoilCode(x);
        for (int w : new int[] {-1, 2, MIN, MAX}) due("no worth", x.tell(w, 0, 1000001), UNKNOWN);
        for (int s : new int[] {-1, 4, MIN, MAX}) due("no set", x.tell(0, s, 1000001), UNKNOWN);
        for (int v : new int[] {-1000001, 1000001, MIN, MAX}) due("outside", x.tell(1, 3, v), OUTSIDE);
        due("set 0", x.tell(0, 0, 0), OUTSIDE);
        due("code stays", x.code(), 1);
        due("another kind", x.tell(1, 1, 1), 0);
        due("code", x.code(), 5);
        x.part(0, 0);
        x.part(1, 0);
        spoilCode(x);
        due("held", x.tell(0, 1, 1), NOT);
        due("held ahead of the code", x.tell(1, 1, 1), NOT);
        due("outside ahead of held", x.tell(0, 0, 1), OUTSIDE);
        due("code stays", x.code(), 1);
        due("unchanged", x.value(0, 1), 0);
    }

    private static void read() {
        FallingGains x = withThings(2);
        x.worth(0);
        x.worth(1);
        x.sheet(0, 1, 4);
        for (int i = 0; i < 4; i++) x.put(0, 1, i, i == 0 ? 5000000 : 2000000 - 1000000 * i);
        spoilCode(x);
        due("read", x.read(0, 0), 1);
        due("code", x.code(), 0);
        for (int i = 0; i < 4; i++) due("value", x.value(0, i), i == 0 ? 0 : 2000000 - 1000000 * i);
        spoilCode(x);
        for (int w : new int[] {-1, 2, MIN, MAX}) due("no worth", x.read(w, 0), UNKNOWN);
        for (int s : new int[] {-1, 4, MIN, MAX}) due("no sheet", x.read(0, s), UNKNOWN);
        due("code stays", x.code(), 1);
        due("another kind", x.read(1, 3), 0);
        due("code 5 ahead of 1", x.code(), 5);
        due("no row", x.read(0, 3), 0);
        due("code", x.code(), 1);
        x.sheet(1, 2, 3);
        x.put(1, 2, 1, 1000001);
        due("too short", x.read(0, 1), 0);
        due("code 3 ahead of NOT", x.code(), 3);
        x.sheet(1, 2, 5);
        x.put(1, 2, 1, 3);
        for (long v : new long[] {1000001, -1000001, Long.MIN_VALUE, Long.MAX_VALUE}) {
            for (int i = 1; i < 4; i++) {
                x.put(1, 2, i, v);
                spoilCode(x);
                due("too far", x.read(0, 1), NOT);
                due("code stays", x.code(), 1);
                x.put(1, 2, i, 3);
            }
        }
        due("unchanged", x.value(0, 1), 1000000);
        x.put(1, 2, 3, -1000000);
        x.put(1, 2, 4, 1000001);
        due("longer", x.read(0, 1), 1);
        due("value", x.value(0, 1), 3);
        due("value", x.value(0, 3), -1000000);
        x.part(0, 0);
        x.part(1, 0);
        due("held", x.read(0, 3), NOT);
        due("held ahead of codes", x.read(1, 3), NOT);
        x.things(0);
        x.worth(0);
        x.sheet(2, 0, 0);
        due("no set, no place asked for", x.read(0, 2), 1);
        x.things(1);
        x.worth(0);
        x.sheet(2, 0, 1);
        due("too short for one thing", x.read(0, 2), 0);
        due("code", x.code(), 3);
        x.things(10);
        x.worth(0);
        x.sheet(2, 0, 1023);
        due("one too short", x.read(0, 2), 0);
        due("code", x.code(), 3);
        x.sheet(2, 0, 1024);
        x.put(2, 0, 1023, 77);
        due("just long enough", x.read(0, 2), 1);
        due("value", x.value(0, 1023), 77);
    }

    private static void line() {
        FallingGains x = withThings(3);
        x.worth(1);
        x.worth(2);
        spoilCode(x);
        due("line", x.line(0, 0, 2, 10000), 1);
        due("code", x.code(), 0);
        due("line", x.line(0, 0, 2, 1), 2);
        due("line", x.line(0, 2, 1, 5), 3);
        int[] want = {0, 10001, 0, 10001, 5, 5, 0, 0};
        for (int set = 0; set < 8; set++) due("value", x.value(0, set), want[set]);
        spoilCode(x);
        for (int w : new int[] {-1, 2, MIN, MAX}) due("no worth", x.line(w, 0, 0, -1), UNKNOWN);
        for (int t : new int[] {-1, 3, MIN, MAX}) due("no thing", x.line(0, t, 0, -1), UNKNOWN);
        for (int t : new int[] {-1, 3, MIN, MAX}) due("no thing", x.line(0, 0, t, -1), UNKNOWN);
        for (int v : new int[] {-1, 10001, MIN, MAX}) due("outside", x.line(0, 1, 1, v), OUTSIDE);
        due("to itself", x.line(0, 1, 1, 1), NOT);
        due("to itself, ahead of the code", x.line(1, 1, 1, 1), NOT);
        due("code stays", x.code(), 1);
        due("another kind", x.line(1, 0, 1, 1), 0);
        due("code", x.code(), 5);
        for (int i = 4; i <= 24; i++) due("line", x.line(0, 1, 0, 0), i);
        spoilCode(x);
        due("full", x.line(0, 1, 0, 1), FULL);
        due("code stays", x.code(), 1);
        due("to itself ahead of full", x.line(0, 1, 1, 1), NOT);
        due("unchanged", x.value(0, 2), 0);
        due("lines are no spots", x.spot(0, 1, 1), 0);
        due("code 5 ahead of full", x.code(), 5);
        x.part(0, 0);
        x.part(1, 0);
        due("held", x.line(0, 1, 0, 1), NOT);
        due("held", x.line(1, 1, 0, 1), NOT);
    }

    private static void spot() {
        FallingGains x = withThings(3);
        x.worth(2);
        x.worth(1);
        spoilCode(x);
        due("spot", x.spot(0, 10000, 5), 1);
        due("code", x.code(), 0);
        due("spot", x.spot(0, 3, 6), 2);
        due("covered by none", x.spot(0, 9, 0), 3);
        int[] want = {0, 10000, 3, 10003, 10003, 10003, 10003, 10003};
        for (int set = 0; set < 8; set++) due("value", x.value(0, set), want[set]);
        spoilCode(x);
        for (int w : new int[] {-1, 2, MIN, MAX}) due("no worth", x.spot(w, -1, 0), UNKNOWN);
        for (int s : new int[] {-1, 8, MIN, MAX}) due("no set", x.spot(0, -1, s), UNKNOWN);
        for (int v : new int[] {-1, 10001, MIN, MAX}) due("outside", x.spot(1, v, 1), OUTSIDE);
        due("code stays", x.code(), 1);
        due("another kind", x.spot(1, 1, 1), 0);
        due("code", x.code(), 5);
        for (int i = 4; i <= 24; i++) due("spot", x.spot(0, 0, 7), i);
        spoilCode(x);
        due("full", x.spot(0, 1, 7), FULL);
        due("code stays", x.code(), 1);
        due("unchanged", x.value(0, 1), 10000);
        due("spots are no lines", x.line(0, 1, 2, 1), 0);
        due("code 5 ahead of full", x.code(), 5);
        x.part(0, 0);
        x.part(1, 0);
        due("held ahead of full", x.spot(0, 1, 7), NOT);
        due("held", x.spot(1, 1, 7), NOT);
        due("outside ahead of held", x.spot(0, -1, 7), OUTSIDE);
    }

    private static void row() {
        FallingGains x = withThings(6);
        x.worth(3);
        x.worth(0);
        spoilCode(x);
        due("row", x.row(0, 0, 99, -99, 98, 1), 1);
        due("code", x.code(), 0);
        due("row of 0", x.value(0, 2), 0);
        x.row(0, 1, -99, 99, -98, -1);
        due("hang on one another", x.value(0, 3), 1);
        x.row(0, 2, 0, 0, 0, 7);
        x.row(0, 3, 0, 3, 0, 7);
        x.row(0, 4, 0, 1, 5, 0);
        due("four of five", x.value(0, 31), 4);
        due("four", x.value(0, 29), 4);
        due("three", x.value(0, 28), 3);
        x.row(0, 5, 0, 3, 0, 0);
        due("hang on two", x.value(0, 44), 2);
        x.row(0, 4, 0, -9, 0, 5);
        due("told anew", x.value(0, 60), 2);
        due("told anew", x.value(0, 63), 3);
        spoilCode(x);
        for (int w : new int[] {-1, 2, MIN, MAX}) due("no worth", x.row(w, 0, 100, 0, 0, 0), UNKNOWN);
        for (int t : new int[] {-1, 6, MIN, MAX}) due("no thing", x.row(0, t, 100, 0, 0, 0), UNKNOWN);
        for (int v : new int[] {-100, 100, MIN, MAX}) {
            due("outside", x.row(1, 0, v, 0, 0, 0), OUTSIDE);
            due("outside", x.row(0, 0, 0, v, 0, 0), OUTSIDE);
            due("outside", x.row(0, 0, 0, 0, v, 0), OUTSIDE);
            due("outside", x.row(0, 0, 0, 0, 0, v), OUTSIDE);
        }
        due("code stays", x.code(), 1);
        due("another kind", x.row(1, 0, 1, 1, 1, 1), 0);
        due("code", x.code(), 5);
        x.part(0, 0);
        x.part(1, 0);
        due("held", x.row(0, 0, 0, 0, 0, 0), NOT);
        due("held", x.row(1, 0, 0, 0, 0, 0), NOT);
        due("unchanged", x.value(0, 63), 3);
        largeRows();
        manyRows();
    }

    /** The largest numbers, whose products are the largest too. */
    private static void largeRows() {
        FallingGains x = withThings(4);
        x.worth(3);
        x.row(0, 0, 99, 99, 99, 99);
        x.row(0, 1, 99, -99, 99, -99);
        x.row(0, 2, 99, 99, -99, -99);
        x.row(0, 3, 99, -99, -99, 99);
        due("all four", x.value(0, 15), 4);
        x.row(0, 3, 98, 98, 0, 0);
        due("half of two", x.value(0, 13), 2);
        due("with one more", x.value(0, 15), 3);
    }

    /** SETS of more THINGS than a row is long; each THING in turn is the one that can be left out. */
    private static void manyRows() {
        FallingGains x = withThings(10);
        x.worth(3);
        for (int out = 0; out < 5; out++) {
            for (int t = 0; t < 5; t++) {
                int place = t < out ? t : t - 1;
                int on = t == out ? 0 : 1;
                x.row(0, t, place == 0 ? on : 0, place == 1 ? on : 0, place == 2 ? on : 0, place == 3 ? on : 0);
            }
            due("four of five", x.value(0, 31), 4);
            due("the rest", x.value(0, 31 - (1 << out)), 4);
            due("all", x.value(0, 1023), 4);
            due("rows of 0", x.value(0, 992), 0);
        }
        x.row(0, 9, 1, 2, 3, 4);
        due("one", x.value(0, 992), 1);
        x.row(0, 5, 4, 3, 2, 1);
        due("two", x.value(0, 992), 2);
        x.row(0, 7, 5, 5, 5, 5);
        due("still two", x.value(0, 992), 2);
        x.row(0, 7, 5, 5, 5, 6);
        due("three", x.value(0, 992), 3);
    }

    private static void rise() {
        FallingGains x = withThings(3);
        x.worth(4);
        x.worth(0);
        due("none", x.value(0, 7), 0);
        spoilCode(x);
        due("rise", x.rise(0, 10000), 1);
        due("code", x.code(), 0);
        due("as the last one", x.value(0, 7), 30000);
        due("alike", x.rise(0, 10000), 2);
        x.worth(4);
        x.rise(2, -5);
        due("above the first", x.rise(2, -4), NOT);
        due("alike", x.rise(2, -5), 2);
        due("0 is above too", x.rise(2, 0), NOT);
        x.worth(2);
        for (int i = 0; i < 10; i++) x.spot(3, 1, 1);
        due("spots are no rises", x.rise(3, 0), 0);
        due("code 5 ahead of full", x.code(), 5);
        due("rise", x.rise(0, -10000), 3);
        int[] want = {0, 10000, 10000, 20000, 10000, 20000, 20000, 10000};
        for (int set = 0; set < 8; set++) due("value", x.value(0, set), want[set]);
        spoilCode(x);
        for (int w : new int[] {-1, 4, MIN, MAX}) due("no worth", x.rise(w, 10001), UNKNOWN);
        for (int v : new int[] {-10001, 10001, MIN, MAX}) due("outside", x.rise(1, v), OUTSIDE);
        due("above the one ahead", x.rise(0, -9999), NOT);
        due("code stays", x.code(), 1);
        due("another kind", x.rise(1, 1), 0);
        due("code", x.code(), 5);
        for (int i = 4; i <= 10; i++) due("rise", x.rise(0, -10000), i);
        spoilCode(x);
        due("full", x.rise(0, -10000), FULL);
        due("full ahead of the second NOT", x.rise(0, 0), FULL);
        due("code stays", x.code(), 1);
        due("unchanged", x.value(0, 7), 10000);
        x.part(0, 0);
        x.part(1, 0);
        due("held", x.rise(0, -10000), NOT);
        due("held", x.rise(1, 0), NOT);
    }

    private static void add() {
        FallingGains x = told(2, 5, -3, 7);
        x.sum();
        x.worth(0);
        x.tell(2, 3, 1);
        x.sum();
        spoilCode(x);
        due("add", x.add(3, 0, 100), 1);
        due("code", x.code(), 0);
        due("held", x.count(6, 0), 1);
        due("value", x.value(3, 2), -300);
        due("same again", x.add(3, 0, 1), 2);
        due("value", x.value(3, 3), 707);
        due("times 0", x.add(3, 2, 0), 3);
        due("value", x.value(3, 3), 707);
        due("held all the same", x.count(6, 2), 1);
        spoilCode(x);
        for (int w : new int[] {-1, 4, MIN, MAX}) due("no worth", x.add(w, 0, 101), UNKNOWN);
        for (int w : new int[] {-1, 4, MIN, MAX}) due("no worth", x.add(3, w, 101), UNKNOWN);
        for (int f : new int[] {-1, 101, MIN, MAX}) due("outside", x.add(3, 3, f), OUTSIDE);
        due("itself", x.add(3, 3, 1), NOT);
        due("behind", x.add(1, 3, 1), NOT);
        due("not ahead, ahead of the code", x.add(2, 3, 1), NOT);
        due("code stays", x.code(), 1);
        x.worth(1);
        for (int i = 0; i < 4; i++) x.line(4, 0, 1, 1);
        due("another kind, ahead of full", x.add(4, 1, 1), 0);
        due("code", x.code(), 5);
        due("not held", x.count(6, 1), 0);
        due("fourth", x.add(3, 1, 1), 4);
        spoilCode(x);
        due("full", x.add(3, 0, 1), FULL);
        due("code stays", x.code(), 1);
        x.part(3, 3);
        due("held ahead of full", x.add(3, 0, 1), NOT);
        largeAdd(1000000);
        largeAdd(-1000000);
    }

    private static void largeAdd(int first) {
        FallingGains x = tower(first);
        x.sum();
        due("12 * 80 of 10^9", x.add(3, 2, 12), 1);
        due("and 40", x.add(3, 1, 100), 2);
        due("just 10^12", x.value(3, 1), 1000000L * first);
        x.sum();
        x.price(4, 0, first > 0 ? 1 : -1);
        spoilCode(x);
        due("large", x.add(4, 3, 1), LARGE);
        due("code stays", x.code(), 1);
        due("not held", x.count(6, 3), 0);
        due("not added", x.count(5, 4), 0);
        due("unchanged", x.value(4, 1), first > 0 ? 1 : -1);
        x.price(4, 0, 0);
        due("just within", x.add(4, 3, 1), 1);
        due("code", x.code(), 0);
        due("far too large", x.add(4, 3, 100), LARGE);
        due("unchanged", x.value(4, 1), 1000000L * first);
        for (int i = 2; i <= 4; i++) due("times 0", x.add(4, 3, 0), i);
        due("full ahead of large", x.add(4, 3, 100), FULL);
    }

    private static void price() {
        FallingGains x = told(2, 5, -3, 7);
        x.sum();
        x.add(1, 0, 2);
        spoilCode(x);
        due("price", x.price(1, 0, 100000), 0);
        due("code", x.code(), 0);
        due("what it was", x.price(1, 0, -100000), 100000);
        due("what it was", x.price(1, 1, -1002), 0);
        due("as a refusal is", x.price(1, 1, 4), -1002);
        int[] want = {0, 10 - 100000, -6 + 4, 14 - 99996};
        for (int set = 0; set < 4; set++) due("value", x.value(1, set), want[set]);
        spoilCode(x);
        for (int w : new int[] {-1, 2, MIN, MAX}) due("no worth", x.price(w, 0, 100001), UNKNOWN);
        for (int t : new int[] {-1, 2, MIN, MAX}) due("no thing", x.price(1, t, 100001), UNKNOWN);
        for (int v : new int[] {-100001, 100001, MIN, MAX}) due("outside", x.price(0, 0, v), OUTSIDE);
        due("held", x.price(0, 0, 1), NOT);
        due("code stays", x.code(), 1);
        x.worth(0);
        due("another kind", x.price(2, 0, 1), 0);
        due("code", x.code(), 5);
        x.part(1, 3);
        due("held", x.price(1, 0, 1), NOT);
        due("unchanged", x.value(1, 3), want[3]);
        largePrice(1000000, 1);
        largePrice(-1000000, -1);
    }

    private static void largePrice(int first, int sign) {
        FallingGains x = tower(first);
        x.sum();
        x.add(3, 2, 12);
        x.add(3, 1, 100);
        spoilCode(x);
        due("large", x.price(3, 0, sign), LARGE);
        due("code stays", x.code(), 1);
        due("away from it", x.price(3, 0, -100000 * sign), 0);
        due("large again", x.price(3, 0, sign), LARGE);
        due("unchanged", x.value(3, 1), 1000000L * first - 100000 * sign);
        due("and back", x.price(3, 0, 0), -100000 * sign);
        due("value", x.value(3, 1), 1000000L * first);
        x.part(3, 1);
        due("another kind, ahead of large", x.price(4, 0, sign), 0);
        due("code", x.code(), 5);
    }

    private static void code() {
        FallingGains x = told(2, 1, 2, 3);
        due("at first", x.code(), 0);
        x.sheet(0, 0, -1);
        due("4", x.code(), 4);
        due("again", x.code(), 4);
        x.value(0, 1);
        x.least(0);
        x.order(0, 1);
        x.corner(0);
        x.worth(1);
        x.sum();
        x.kind(0);
        x.count(0, 0);
        x.tear(0);
        x.tear(9);
        x.things(2);
        due("calls that name no codes", x.code(), 4);
        x.worth(0);
        x.part(0, 3);
        x.tell(0, 1, 1);
        x.tell(0, 9, 1);
        x.tell(0, 0, 1);
        due("refused", x.code(), 4);
        x.sheet(0, 0, 1);
        due("fine", x.code(), 0);
        x.put(0, 1, 0, 1);
        due("2", x.code(), 2);
        x.put(0, 0, 0, 1);
        due("fine", x.code(), 0);
        x.rise(1, 1);
        due("5", x.code(), 5);
    }

    private static void value() {
        FallingGains x = told(2, 5, -1001, 7);
        due("of 0", x.value(0, 0), 0);
        due("as a refusal is", x.value(0, 2), -1001);
        due("of all", x.value(0, 3), 7);
        for (int w : new int[] {-1, 1, 12, MIN, MAX}) due("no worth", x.value(w, 0), UNKNOWN);
        for (int s : new int[] {-1, 4, MIN, MAX}) due("no set", x.value(0, s), UNKNOWN);
        x.things(10);
        x.worth(1);
        x.line(0, 9, 0, 6);
        due("large set", x.value(0, 1022), 6);
        due("all", x.value(0, 1023), 0);
    }

    private static void adds() {
        FallingGains x = told(2, 5, -3, 7);
        due("to 0", x.adds(0, 0, 1), -3);
        due("to one", x.adds(0, 2, 0), 10);
        due("in it", x.adds(0, 2, 1), 0);
        due("in all", x.adds(0, 3, 0), 0);
        for (int w : new int[] {-1, 1, MIN, MAX}) due("no worth", x.adds(w, 0, 0), UNKNOWN);
        for (int s : new int[] {-1, 4, MIN, MAX}) due("no set", x.adds(0, s, 0), UNKNOWN);
        for (int t : new int[] {-1, 2, 31, 32, MIN, MAX}) due("no thing", x.adds(0, 3, t), UNKNOWN);
    }

    private static void falls() {
        due("alike", told(2, 2, 3, 5).falls(0), 1);
        due("less", told(2, 2, 3, 4).falls(0), 1);
        due("more", told(2, 2, 3, 6).falls(0), 0);
        due("one thing", told(1, 9).falls(0), 1);
        due("none", told(0).falls(0), 1);
        due("only with all", told(3, 2, 2, 3, 2, 3, 3, 5).falls(0), 0);
        FallingGains x = withThings(4);
        for (int k = 1; k < 5; k++) x.worth(k);
        x.line(0, 0, 1, 3);
        x.line(0, 1, 3, 2);
        x.spot(1, 4, 7);
        x.row(2, 0, 1, 2, 3, 4);
        x.row(2, 3, 2, 4, 6, 8);
        x.rise(3, 7);
        x.rise(3, -7);
        for (int w = 0; w < 4; w++) due("they all fall", x.falls(w), 1);
        for (int w : new int[] {-1, 4, MIN, MAX}) due("no worth", x.falls(w), UNKNOWN);
    }

    private static void why() {
        FallingGains x = told(3, 1, 1, 2, 1, 2, 3, 3);
        due("set", x.why(0, 0), 0);
        due("first", x.why(0, 1), 1);
        due("second", x.why(0, 2), 2);
        x = told(3, 2, 2, 3, 2, 3, 3, 5);
        due("least set of several", x.why(0, 0), 1);
        due("first", x.why(0, 1), 1);
        due("second", x.why(0, 2), 2);
        x = told(3, 1, 1, 2, 1, 9, 9, 9);
        due("least first", x.why(0, 1), 0);
        due("least second that breaks", x.why(0, 2), 2);
        x = told(3, 0, 0, 0, 0, 0, 0, 0);
        for (int what = 0; what < 3; what++) due("it falls", x.why(0, what), NONE);
        for (int what : new int[] {-1, 3, MIN, MAX}) due("outside", x.why(0, what), OUTSIDE);
        for (int w : new int[] {-1, 1, MIN, MAX}) due("no worth", x.why(w, 3), UNKNOWN);
    }

    private static void least() {
        due("0", told(2, 5, 3, 1).least(0), 0);
        due("all", told(2, 5, 3, -1).least(0), -1);
        due("one", told(2, 5, -1001, -1).least(0), -1001);
        due("none", told(0).least(0), 0);
        for (int w : new int[] {-1, 1, MIN, MAX}) due("no worth", told(1).least(w), UNKNOWN);
    }

    private static void all() {
        FallingGains x = told(3, -1, 0, -1, 0, -1, 0, -1);
        due("how many", x.all(0, 0), 4);
        due("all have", x.all(0, 1), 1);
        due("some have", x.all(0, 2), 7);
        due("closed", x.all(0, 3), 1);
        x = told(3, -1, 0, -1, 0, -1, 0, 0);
        due("how many", x.all(0, 0), 3);
        due("not what they have in all", x.all(0, 3), 0);
        x = told(3, 0, 0, -1, 0, -1, 0, -1);
        due("not what both have", x.all(0, 3), 0);
        x = told(2, -1, -1, -1);
        due("not 0", x.all(0, 3), 0);
        x = told(2, -1, 0, 0);
        due("one", x.all(0, 0), 1);
        due("one is closed", x.all(0, 3), 1);
        x = told(10);
        due("all of them", x.all(0, 0), 1024);
        due("nothing", x.all(0, 1), 0);
        due("everything", x.all(0, 2), 1023);
        due("closed", x.all(0, 3), 1);
        x.tell(0, 1000, 1);
        due("all but one", x.all(0, 0), 1023);
        due("not closed", x.all(0, 3), 0);
        for (int what : new int[] {-1, 4, MIN, MAX}) due("outside", x.all(0, what), OUTSIDE);
        for (int w : new int[] {-1, 1, MIN, MAX}) due("no worth", x.all(w, 4), UNKNOWN);
        chains();
    }

    private static void chains() {
        FallingGains x = told(2, 0, 1, 0);
        due("0, then with THING 0, then both", x.all(0, 3), 1);
        x.tell(0, 1, 1);
        x.tell(0, 2, 0);
        due("0, then with THING 1, then both", x.all(0, 3), 1);
        x.tell(0, 3, 1);
        due("without 0", x.all(0, 2), 2);
        due("closed", x.all(0, 3), 1);
        x.tell(0, 1, 0);
        due("not both", x.all(0, 3), 0);
        x = told(3, -1, 0, -1, 0, -1, 0, -1);
        x.tell(0, 1, -2);
        x.tell(0, 7, -2);
        due("far apart, but one in the other", x.all(0, 3), 1);
        x.tell(0, 3, -2);
        due("a chain", x.all(0, 3), 1);
        x.tell(0, 6, -2);
        due("what both have is missing", x.all(0, 3), 0);
    }

    private static void one() {
        FallingGains x = told(3, 0, -4, 0, -4, 1, 2, -4);
        due("first", x.one(0, 0), 2);
        due("second", x.one(0, 1), 4);
        due("third", x.one(0, 2), 7);
        for (int i : new int[] {-1, 3, MIN, MAX}) due("none", x.one(0, i), NONE);
        for (int w : new int[] {-1, 1, MIN, MAX}) due("no worth", x.one(w, 0), UNKNOWN);
        due("all at 0", told(10).one(0, 1023), 1023);
    }

    private static void level() {
        FallingGains x = told(3, 5, 3, 8, 4, -9, 7, 6);
        due("0", x.level(0, 0), 0);
        due("1", x.level(0, 1), 3);
        due("2", x.level(0, 2), -9);
        due("3", x.level(0, 3), 6);
        for (int k : new int[] {-1, 4, 10, MIN, MAX}) due("outside", x.level(0, k), OUTSIDE);
        for (int w : new int[] {-1, 1, MIN, MAX}) due("no worth", x.level(w, 4), UNKNOWN);
        x = tenPrices();
        for (int k = 0; k <= 10; k++) due("sum of the least prices", x.level(0, k), k * (k - 1) / 2);
        due("outside", x.level(0, 11), OUTSIDE);
        due("no things", told(0).level(0, 0), 0);
        due("no things", told(0).level(0, 1), OUTSIDE);
    }

    /** WORTH 0 is TOLD, each SET as its COUNT says. */
    private static FallingGains byCount(int... lows) {
        FallingGains x = withThings(lows.length);
        x.worth(0);
        for (int set = 1; set < 1 << lows.length; set++) x.tell(0, set, lows[Integer.bitCount(set) - 1]);
        return x;
    }

    /** WORTH 0 is a SUM of PRICES 9, 8, .. 0 alone, so that each THING more is a BEND. */
    private static FallingGains tenPrices() {
        FallingGains x = withThings(10);
        x.sum();
        for (int t = 0; t < 10; t++) x.price(0, t, 9 - t);
        return x;
    }

    private static void bends() {
        due("no things", told(0).bends(0), 0);
        due("one thing", told(1, 7).bends(0), 1);
        due("straight", told(2, 3, 3, 6).bends(0), 1);
        due("bent up", told(2, 3, 3, 7).bends(0), 2);
        due("bent down", told(2, 3, 3, 5).bends(0), 1);
        due("three", told(3, -5, -5, -5, -5, -5, -5, 9).bends(0), 3);
        due("between others on the line", told(3, 1, 1, 2, 1, 2, 2, 9).bends(0), 2);
        due("ten", tenPrices().bends(0), 10);
        due("behind the first", byCount(-5, 0, 2, 3, 9).bends(0), 3);
        for (int w : new int[] {-1, 1, MIN, MAX}) due("no worth", told(1).bends(w), UNKNOWN);
    }

    private static void bend() {
        FallingGains x = told(3, 1, 1, 2, 1, 2, 2, 9);
        long[][] want = {{1, 1, 0, 2}, {7, 1, 2, 3}};
        for (int i = 0; i < 2; i++) {
            for (int what = 0; what < 4; what++) due("bend(" + i + ", " + what + ")", x.bend(0, i, what), want[i][what]);
        }
        x = told(3, 9, 9, -4, 9, 9, 9, -5);
        long[][] fraction = {{-2, 1, 0, 2}, {-1, 1, 2, 3}};
        for (int i = 0; i < 2; i++) {
            for (int what = 0; what < 4; what++) due("bend(" + i + ", " + what + ")", x.bend(0, i, what), fraction[i][what]);
        }
        x = told(3, 9, 9, 9, 9, 9, 9, -5);
        long[] thirds = {-5, 3, 0, 3};
        for (int what = 0; what < 4; what++) due("thirds", x.bend(0, 0, what), thirds[what]);
        x = told(4);
        for (int set = 1; set < 15; set++) x.tell(0, set, 9);
        x.tell(0, 15, -6);
        long[] halves = {-3, 2, 0, 4};
        for (int what = 0; what < 4; what++) due("halves", x.bend(0, 0, what), halves[what]);
        x.tell(0, 15, 0);
        long[] flat = {0, 1, 0, 4};
        for (int what = 0; what < 4; what++) due("flat", x.bend(0, 0, what), flat[what]);
        for (int i : new int[] {-1, 1, MIN, MAX}) due("no bend", x.bend(0, i, 4), UNKNOWN);
        dueBends(byCount(-5, 0, 2, 3, 9), new long[][] {{-5, 1, 0, 1}, {8, 3, 1, 4}, {6, 1, 4, 5}});
        dueBends(byCount(-7, -8, 5, -3, 9), new long[][] {{-7, 1, 0, 1}, {-1, 1, 1, 2}, {5, 2, 2, 4}, {12, 1, 4, 5}});
        dueBends(byCount(4, 2, 5, 8, 8), new long[][] {{1, 1, 0, 2}, {2, 1, 2, 5}});
        dueBends(byCount(4, 2, 5, 6, 8), new long[][] {{1, 1, 0, 2}, {2, 1, 2, 5}});
        dueBends(byCount(1, 4, 4, 5, 7), new long[][] {{1, 1, 0, 1}, {4, 3, 1, 4}, {2, 1, 4, 5}});
        FallingGains ten = tenPrices();
        for (int i = 0; i < 10; i++) {
            due("price", ten.bend(0, i, 0), i);
            due("bottom", ten.bend(0, i, 1), 1);
            due("from", ten.bend(0, i, 2), i);
            due("to", ten.bend(0, i, 3), i + 1);
        }
        due("no bend", ten.bend(0, 10, 0), UNKNOWN);
        for (int w : new int[] {-1, 1, MIN, MAX}) due("no worth", x.bend(w, 0, 4), UNKNOWN);
        for (int what : new int[] {-1, 4, MIN, MAX}) due("outside", x.bend(0, 0, what), OUTSIDE);
        due("no things", told(0).bend(0, 0, 0), UNKNOWN);
    }

    private static void dueBends(FallingGains x, long[][] want) {
        due("bends", x.bends(0), want.length);
        for (int i = 0; i < want.length; i++) {
            for (int what = 0; what < 4; what++) due("bend(" + i + ", " + what + ")", x.bend(0, i, what), want[i][what]);
        }
    }

    private static void order() {
        FallingGains x = withThings(4);
        due("to the end", x.order(0, 3), 0);
        due("to the start", x.order(3, 0), 2);
        due("stays", x.order(2, 2), 2);
        int[] want = {3, 1, 2, 0};
        for (int i = 0; i < 4; i++) due("the order", x.order(want[i], i), i);
        for (int t : new int[] {-1, 4, MIN, MAX}) due("no thing", x.order(t, 9), UNKNOWN);
        for (int i : new int[] {-1, 4, MIN, MAX}) due("no place", x.order(0, i), OUTSIDE);
        for (int i = 0; i < 4; i++) due("unchanged", x.order(want[i], i), i);
        due("no things", withThings(0).order(0, 0), UNKNOWN);
        x = withThings(10);
        due("to the end", x.order(0, 9), 0);
        due("and back", x.order(0, 0), 9);
        for (int t = 0; t < 10; t++) due("the order", x.order(t, t), t);
    }

    private static void corner() {
        FallingGains x = told(3, 1, 10, 12, 100, 104, 118, 128);
        due("corner", x.corner(0), 1);
        dueShares(x, 1, 1, 11, 116);
        x.order(2, 0);
        x.mix(0, 3, 4);
        due("corner", x.corner(0), 1);
        dueShares(x, 1, 4, 24, 100);
        x.order(1, 0);
        x.corner(0);
        dueShares(x, 1, 10, 10, 108);
        for (int w : new int[] {-1, 1, MIN, MAX}) due("no worth", x.corner(w), UNKNOWN);
        dueShares(x, 1, 10, 10, 108);
        due("no things", told(0).corner(0), 1);
    }

    private static void dueShares(FallingGains x, long bottom, long... shares) {
        due("the bottom", x.shareOf(NONE), bottom);
        for (int t = 0; t < shares.length; t++) due("share of " + t, x.shareOf(t), shares[t]);
    }

    private static void mix() {
        FallingGains x = told(2, 5, -3, 7);
        due("half", x.mix(0, 1, 1), 2);
        dueShares(x, 2, 5, 2);
        x.order(1, 0);
        due("mixed", x.mix(0, 3, 2), 8);
        dueShares(x, 8, 35, 0);
        due("f alone", x.mix(0, 2, 0), 16);
        dueShares(x, 16, 70, 0);
        due("g alone", x.mix(0, 0, 1000), 1000);
        dueShares(x, 1000, 10000, -3000);
        due("one too much", x.mix(0, 1000, 1), LARGE);
        due("just within", x.mix(0, 1000, 0), 1000000);
        due("large", x.mix(0, 1, 1), LARGE);
        due("large", x.mix(0, 1000, 1000), LARGE);
        dueShares(x, 1000000, 10000000, -3000000);
        due("both 0", x.mix(0, 0, 0), OUTSIDE);
        for (int f : new int[] {-1, 1001, MIN, MAX}) due("outside", x.mix(0, f, 1), OUTSIDE);
        for (int g : new int[] {-1, 1001, MIN, MAX}) due("outside", x.mix(0, 1, g), OUTSIDE);
        for (int w : new int[] {-1, 1, MIN, MAX}) due("no worth", x.mix(w, 0, 0), UNKNOWN);
        for (int w : new int[] {-1, 1, MIN, MAX}) due("no worth", x.mix(w, -1, 1001), UNKNOWN);
        dueShares(x, 1000000, 10000000, -3000000);
        due("no things", told(0).mix(0, 1, 5), 6);
        largeShares(1);
        largeShares(-1);
    }

    private static void largeShares(int sign) {
        FallingGains x = told(1, sign);
        x.share(0, sign * 1000000000000L);
        due("just 10^15", x.mix(0, 1000, 0), 1000);
        due("large", x.mix(0, 1, 1), LARGE);
        due("large", x.mix(0, 2, 0), LARGE);
        dueShares(x, 1000, sign * 1000000000000000L);
        due("as it was", x.mix(0, 1, 0), 1000);
        due("g alone", x.mix(0, 0, 1), 1);
        dueShares(x, 1, sign);
    }

    private static void share() {
        FallingGains x = told(2, 5, -3, 7);
        due("was 0", x.share(1, 1000000000000L), 0);
        due("what it was", x.share(1, -1000000000000L), 1000000000000L);
        due("what it was", x.share(1, -1001), -1000000000000L);
        due("as a refusal is", x.share(1, 4), -1001);
        for (long v : new long[] {-1000000000001L, 1000000000001L, Long.MIN_VALUE, Long.MAX_VALUE}) {
            due("outside", x.share(0, v), OUTSIDE);
        }
        for (int t : new int[] {-1, 2, MIN, MAX}) due("no thing", x.share(t, Long.MAX_VALUE), UNKNOWN);
        dueShares(x, 1, 0, 4);
        x.mix(0, 2, 1);
        x.share(0, 9);
        dueShares(x, 3, 9, 10);
    }

    private static void shareOf() {
        FallingGains x = told(2, 5, -3, 7);
        dueShares(x, 1, 0, 0);
        x.share(1, -1001);
        due("as a refusal is", x.shareOf(1), -1001);
        x.mix(0, 6, 1);
        due("the bottom", x.shareOf(NONE), 7);
        due("share", x.shareOf(0), 5);
        for (int t : new int[] {-2, 2, 10, MIN, MAX}) due("no thing", x.shareOf(t), UNKNOWN);
    }

    private static void in() {
        FallingGains x = told(2, 5, 4, 6);
        due("below in all", x.in(0), 3);
        x.share(0, 2);
        x.share(1, 4);
        due("in", x.in(0), NONE);
        x.share(1, 5);
        due("least set above", x.in(0), 2);
        x.share(0, 6);
        due("least set above", x.in(0), 1);
        x.share(0, 5);
        x.share(1, 2);
        due("above in all", x.in(0), 3);
        x.mix(0, 2, 0);
        due("by the bottom", x.in(0), 3);
        x.share(0, 10);
        x.share(1, 2);
        due("in by the bottom", x.in(0), NONE);
        x.share(1, 1);
        due("below by the bottom", x.in(0), 3);
        for (int w : new int[] {-1, 1, MIN, MAX}) due("no worth", x.in(w), UNKNOWN);
        due("no things", told(0).in(0), NONE);
    }

    private static void proves() {
        FallingGains x = told(2, -2, 3, 1);
        x.corner(0);
        due("proves", x.proves(0), 1);
        x.share(0, -3);
        x.share(1, 4);
        due("not in", x.proves(0), 0);
        x = told(2, 4, 3, -2);
        x.corner(0);
        due("in, but too far below", x.proves(0), 0);
        x.share(0, -1);
        x.share(1, -1);
        due("proves", x.proves(0), 1);
        x.mix(0, 3, 0);
        due("by the bottom", x.proves(0), 1);
        x.share(0, -2);
        x.share(1, -4);
        due("by the bottom", x.proves(0), 1);
        x.share(1, -5);
        due("not the least, not in", x.proves(0), 0);
        x = told(2, -1, -1, 0);
        due("the sum is the least's, but not in", x.proves(0), 0);
        x.share(0, -1);
        x.share(1, 0);
        due("the least, but another set is above", x.proves(0), 0);
        for (int w : new int[] {-1, 1, MIN, MAX}) due("no worth", x.proves(w), UNKNOWN);
        due("no things", told(0).proves(0), 1);
    }

    private static void greed() {
        FallingGains x = told(3, 4, 4, 9, 3, 5, 9, 8);
        due("none", x.greed(0, 0), 0);
        due("the least of those that add most", x.greed(0, 1), 1);
        due("two", x.greed(0, 2), 3);
        due("ends where nothing adds", x.greed(0, 3), 3);
        due("more than there are", x.greed(0, 10), 3);
        x = told(2, 0, -1, 9);
        due("0 is not above 0", x.greed(0, 2), 0);
        due("1 is", told(1, 1).greed(0, 1), 1);
        x = told(2, 1, 2, 9);
        due("all", x.greed(0, 10), 3);
        for (int k : new int[] {-1, 11, MIN, MAX}) due("outside", x.greed(0, k), OUTSIDE);
        for (int w : new int[] {-1, 1, MIN, MAX}) due("no worth", x.greed(w, 11), UNKNOWN);
        due("no things", told(0).greed(0, 10), 0);
    }

    private static void best() {
        FallingGains x = told(3, -4, 4, 9, 3, 5, -9, 12);
        due("0 alone", x.best(0, 0), 0);
        due("one", x.best(0, 1), 4);
        due("two", x.best(0, 2), 9);
        due("three", x.best(0, 3), 12);
        due("more than there are", x.best(0, 10), 12);
        due("0 beats", told(2, -5, -3, -2).best(0, 2), 0);
        x.tell(0, 7, 8);
        due("of at most three", x.best(0, 3), 9);
        for (int k : new int[] {-1, 11, MIN, MAX}) due("outside", x.best(0, k), OUTSIDE);
        for (int w : new int[] {-1, 1, MIN, MAX}) due("no worth", x.best(w, 11), UNKNOWN);
        due("no things", told(0).best(0, 10), 0);
    }

    public static void main(String[] args) {
        Runnable[] promises = {
            PromiseTests::newObject, PromiseTests::things, PromiseTests::sheet, PromiseTests::tear, PromiseTests::put,
            PromiseTests::at, PromiseTests::worth, PromiseTests::sum, PromiseTests::part, PromiseTests::beyond,
            PromiseTests::kind, PromiseTests::count, PromiseTests::tell, PromiseTests::read, PromiseTests::line,
            PromiseTests::spot, PromiseTests::row, PromiseTests::rise, PromiseTests::add, PromiseTests::price,
            PromiseTests::code, PromiseTests::value, PromiseTests::adds, PromiseTests::falls, PromiseTests::why,
            PromiseTests::least, PromiseTests::all, PromiseTests::one, PromiseTests::level, PromiseTests::bends,
            PromiseTests::bend, PromiseTests::order, PromiseTests::corner, PromiseTests::mix, PromiseTests::share,
            PromiseTests::shareOf, PromiseTests::in, PromiseTests::proves, PromiseTests::greed, PromiseTests::best,
        };
        for (Runnable check : promises) {
            promise++;
            check.run();
        }
        System.out.println(promise + " promises, " + checks + " answers, " + wrong + " not as due");
        if (wrong != 0 || promise != 40) System.exit(1);
    }
}
