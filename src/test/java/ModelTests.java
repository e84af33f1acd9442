import java.util.ArrayList;
import java.util.Arrays;
import java.util.List;
import java.util.Map;
import java.util.Random;

/** Drawn runs of calls, with fixed seeds; each answer is held against a plain model of the document. */
public final class ModelTests {
    private static final int UNKNOWN = Bench.UNKNOWN, LARGE = Bench.LARGE;
    private static final int RUNS = 3000, CALLS = Real.MOST_CALLS;

    // ---- drawing

    private static Random random;
    private static Model model;
    private static Bench bench;
    private static int focus;
    private static final int[] FAR = {Integer.MIN_VALUE, -1005, -2, 12, 1024, 1 << 20, Integer.MAX_VALUE};

    /** Mostly within, at times at the bounds, just beyond them, or far away. */
    private static int draw(int low, int high) {
        int way = random.nextInt(60);
        if (way == 0) return FAR[random.nextInt(FAR.length)];
        if (way == 1) return low - 1;
        if (way == 2) return high + 1;
        if (way < 6) return low;
        if (way < 9) return high;
        return high < low ? low : low + random.nextInt(high - low + 1);
    }

    private static int drawThing() { return draw(0, model.things - 1); }
    private static int drawSet() { return draw(0, model.sets() - 1); }
    private static int drawWorth() { return draw(0, model.worths.size() - 1); }
    private static int drawSmall(int bound) { return random.nextInt(3) > 0 ? draw(-4, 4) : draw(-bound, bound); }

    /** A WORTH of a KIND that is not HELD, if there is one, so that the calls that change WORTHS often can. */
    private static int drawOfKind(int kind) {
        List<Integer> fit = new ArrayList<>();
        for (int w = 0; w < model.worths.size(); w++) {
            if (model.worths.get(w).kind == kind && !model.worths.get(w).held) fit.add(w);
        }
        return fit.isEmpty() || random.nextInt(20) == 0 ? drawWorth() : fit.get(random.nextInt(fit.size()));
    }

    private static long drawLong(long bound) {
        switch (random.nextInt(8)) {
            case 0: return random.nextLong();
            case 1: return random.nextBoolean() ? bound : -bound;
            case 2: return random.nextBoolean() ? bound + 1 : -bound - 1;
            case 3: return random.nextLong() % (bound + 1);
            default: return random.nextInt(21) - 10;
        }
    }

    private static String call;
    private static long got, want;

    private static void asked(String text, long g, long m) {
        call = text;
        got = g;
        want = m;
    }

    private static void change(int largest) {
        int a, b, c, d;
        // Each run keeps to one sort of change more than to others, so that some come to FULL and to LARGE.
        switch (random.nextInt(3) == 0 ? focus : random.nextInt(24)) {
            case 0:
                if (random.nextInt(12) > 0) return;
                a = draw(0, largest);
                if (a > largest && a <= 10) a = largest;
                asked("things(" + a + ")", bench.things(a), model.things(a));
                return;
            case 1: a = draw(0, 3); b = draw(0, 2); c = random.nextBoolean() ? model.sets() + random.nextInt(3) - 1 : draw(-1, 1100);
                asked("sheet(" + a + ", " + b + ", " + c + ")", bench.sheet(a, b, c), model.sheet(a, b, c));
                return;
            case 2:
                a = draw(0, 3);
                if (random.nextInt(4) > 0) return;
                asked("tear(" + a + ")", bench.tear(a), model.tear(a));
                return;
            case 3: case 4: case 5: {
                a = draw(0, 3);
                b = a >= 0 && a < 4 && random.nextInt(8) > 0 ? model.forms[a] : draw(0, 2);
                c = random.nextInt(8) > 0 ? drawSet() : draw(0, 1100);
                long v = drawLong(1000000);
                asked("put(" + a + ", " + b + ", " + c + ", " + v + ")", bench.put(a, b, c, v), model.put(a, b, c, v));
                return;
            }
            case 6: a = draw(0, 4); asked("worth(" + a + ")", bench.worth(a), model.worth(a)); return;
            case 7: asked("sum()", bench.sum(), model.sum()); return;
            case 8:
                if (random.nextInt(3) > 0) return;
                a = drawWorth(); b = drawSet();
                asked("part(" + a + ", " + b + ")", bench.part(a, b), model.part(a, b));
                return;
            case 9:
                if (random.nextInt(3) > 0) return;
                a = drawWorth(); b = drawSet();
                asked("beyond(" + a + ", " + b + ")", bench.beyond(a, b), model.beyond(a, b));
                return;
            case 10: case 11: case 12: a = drawOfKind(0); b = drawSet(); c = drawSmall(1000000);
                asked("tell(" + a + ", " + b + ", " + c + ")", bench.tell(a, b, c), model.tell(a, b, c));
                return;
            case 13: a = drawOfKind(0); b = draw(0, 3); asked("read(" + a + ", " + b + ")", bench.read(a, b), model.read(a, b)); return;
            case 14: case 15: a = drawOfKind(1); b = drawThing(); c = drawThing(); d = draw(0, random.nextBoolean() ? 5 : 10000);
                asked("line(" + a + ", " + b + ", " + c + ", " + d + ")", bench.line(a, b, c, d), model.line(a, b, c, d));
                return;
            case 16: case 17: a = drawOfKind(2); b = draw(0, random.nextBoolean() ? 5 : 10000); c = drawSet();
                asked("spot(" + a + ", " + b + ", " + c + ")", bench.spot(a, b, c), model.spot(a, b, c));
                return;
            case 18: case 19: {
                a = drawOfKind(3); b = drawThing();
                int bound = random.nextBoolean() ? 1 : 99;
                int[] r = {draw(-bound, bound), draw(-bound, bound), draw(-bound, bound), draw(-bound, bound)};
                if (random.nextBoolean()) r[3] = 0;
                asked("row(" + a + ", " + b + ", " + Arrays.toString(r) + ")", bench.row(a, b, r[0], r[1], r[2], r[3]), model.row(a, b, r[0], r[1], r[2], r[3]));
                return;
            }
            case 20: a = drawOfKind(4); b = drawSmall(10000); asked("rise(" + a + ", " + b + ")", bench.rise(a, b), model.rise(a, b)); return;
            case 21: case 22: a = drawOfKind(5); b = drawWorth(); c = random.nextBoolean() ? 100 : draw(0, 3);
                if (a > 0 && random.nextBoolean()) b = a - 1;
                asked("add(" + a + ", " + b + ", " + c + ")", bench.add(a, b, c), model.add(a, b, c));
                return;
            default: a = drawOfKind(5); b = drawThing(); c = drawSmall(100000);
                asked("price(" + a + ", " + b + ", " + c + ")", bench.price(a, b, c), model.price(a, b, c));
        }
    }

    private static void ask() {
        int w = drawWorth(), b, c;
        switch (random.nextInt(24)) {
            case 0: b = draw(0, 3); c = random.nextInt(4) > 0 ? drawSet() : draw(0, 1100);
                asked("at(" + b + ", " + c + ")", bench.at(b, c), model.at(b, c));
                return;
            case 1: asked("kind(" + w + ")", bench.kind(w), model.kind(w)); return;
            case 2: case 3: b = draw(0, 6); asked("count(" + b + ", " + w + ")", bench.count(b, w), model.count(b, w)); return;
            case 4: case 5: b = drawSet(); asked("value(" + w + ", " + b + ")", bench.value(w, b), model.value(w, b)); return;
            case 6: b = drawSet(); c = drawThing();
                asked("adds(" + w + ", " + b + ", " + c + ")", bench.adds(w, b, c), model.adds(w, b, c));
                return;
            case 7: asked("falls(" + w + ")", bench.falls(w), model.falls(w)); return;
            case 8: b = draw(0, 2); asked("why(" + w + ", " + b + ")", bench.why(w, b), model.why(w, b)); return;
            case 9: asked("least(" + w + ")", bench.least(w), model.least(w)); return;
            case 10: b = draw(0, 3); asked("all(" + w + ", " + b + ")", bench.all(w, b), model.all(w, b)); return;
            case 11: b = draw(0, 3); asked("one(" + w + ", " + b + ")", bench.one(w, b), model.one(w, b)); return;
            case 12: b = draw(0, model.things); asked("level(" + w + ", " + b + ")", bench.level(w, b), model.level(w, b)); return;
            case 13: asked("bends(" + w + ")", bench.bends(w), model.bends(w)); return;
            case 14: case 15: b = draw(0, Math.min(2, model.things)); c = draw(0, 3);
                asked("bend(" + w + ", " + b + ", " + c + ")", bench.bend(w, b, c), model.bend(w, b, c));
                return;
            case 16: b = drawThing(); c = drawThing(); asked("order(" + b + ", " + c + ")", bench.order(b, c), model.order(b, c)); return;
            case 17: asked("corner(" + w + ")", bench.corner(w), model.corner(w)); return;
            case 18:
                int most = random.nextBoolean() ? 3 : 1000;
                b = draw(0, most); c = draw(0, most);
                asked("mix(" + w + ", " + b + ", " + c + ")", bench.mix(w, b, c), model.mix(w, b, c));
                return;
            case 19: {
                b = drawThing();
                long v = drawLong(1000000000000L);
                asked("share(" + b + ", " + v + ")", bench.share(b, v), model.share(b, v));
                return;
            }
            case 20: b = draw(-1, model.things - 1); asked("shareOf(" + b + ")", bench.shareOf(b), model.shareOf(b)); return;
            case 21: asked("in(" + w + ")", bench.in(w), model.in(w)); return;
            case 22: asked("proves(" + w + ")", bench.proves(w), model.proves(w)); return;
            default: b = draw(0, 10);
                if (random.nextBoolean()) asked("greed(" + w + ", " + b + ")", bench.greed(w, b), model.greed(w, b));
                else asked("best(" + w + ", " + b + ")", bench.best(w, b), model.best(w, b));
        }
    }

    /** Whether all answers of one run are as the model's; code() is asked behind each call, and counted too. */
    private static boolean holds(int seed) {
        random = new Random(seed);
        model = new Model();
        bench = new Real();
        focus = seed % 24;
        int largest = seed % 50 == 0 ? 10 : seed % 5 == 0 ? 6 : 4;
        int start = Math.min(largest, 1 + random.nextInt(largest));
        if (bench.things(start) != model.things(start)) return false;
        for (int i = 1; i + 1 < CALLS; i += 2) {
            call = null;
            if (random.nextInt(5) < (i < CALLS / 3 ? 4 : 2)) change(largest);
            else ask();
            if (call == null) continue;
            tally.merge(call.substring(0, call.indexOf('(')) + (want <= UNKNOWN && want >= LARGE ? " " + want : ""), 1, Integer::sum);
            if (got != want || bench.code() != model.code()) {
                System.out.println("seed " + seed + ", call " + i + ": " + call + " answered " + got + ", due is " + want
                    + "; code " + bench.code() + ", due is " + model.code());
                return false;
            }
        }
        return true;
    }

    private static final Map<String, Integer> tally = new java.util.TreeMap<>();

    public static void main(String[] args) {
        int wrong = 0;
        for (int seed = 1; seed <= RUNS; seed++) if (!holds(seed)) wrong++;
        if (args.length > 1) System.out.println(tally);
        System.out.println(RUNS + " drawn runs, " + wrong + " not as the model");
        if (wrong != 0) System.exit(1);
    }
}
