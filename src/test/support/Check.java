import java.util.TreeSet;

/** Answers against those that are due, each told with the words of the document that ask for it. */
abstract class Check {
    static final int NONE = -1, UNKNOWN = -1001, OUTSIDE = -1002, NOT = -1003, FULL = -1004, LARGE = -1005;
    static final int MIN = Integer.MIN_VALUE, MAX = Integer.MAX_VALUE;
    static final long MILLION = 1000000L, BILLION = 1000000000L, TRILLION = 1000000000000L;

    private static final TreeSet<Integer> PROMISES = new TreeSet<>();
    private static int promise, sentences, checks, wrong;
    private static String words = "";

    interface Call {
        long on(Bench x);
    }

    interface CallOn {
        long on(Bench x, int w);
    }

    /** What is checked from here on stands in a promise, with these words; promise 0 is the section "Terms". */
    static void says(int number, String quoted) {
        promise = number;
        words = quoted;
        sentences++;
        PROMISES.add(number);
    }

    private static void fault(String text) {
        wrong++;
        System.out.println("promise " + promise + ", \"" + words + "\": " + text);
    }

    /** The answer of the latest call of an object. */
    static void due(Real x, long got, long want) {
        checks++;
        if (got != want) fault(x.latest() + " answered " + got + ", due is " + want);
    }

    /** CODE becomes 4, or else 1 or 3, and nothing else; so a call that sets it, or leaves it, shows. */
    private static void spoilCode(Bench x, boolean first) {
        if (first) x.sheet(0, 0, -1);
        else x.at(0, -1);
    }

    private static Real spoiled(Scenes.Scene scene, boolean first) {
        Real x = Scenes.real(scene);
        spoilCode(x, first);
        return x;
    }

    private static void dueUnchanged(Real x, Real twin, boolean codeToo) {
        checks++;
        String call = x.latest();
        String unlike = new Picture(x).unlike(new Picture(twin), codeToo);
        if (unlike != null) fault(call + " changed something: " + unlike);
    }

    /** Answers this, now and again, and changes nothing, not CODE either: a twin that is not asked is like it still. */
    static void asks(Scenes.Scene scene, Call call, long want) {
        for (boolean first : new boolean[] {true, false}) {
            Real x = spoiled(scene, first), twin = spoiled(scene, first);
            due(x, call.on(x), want);
            due(x, call.on(x), want);
            dueUnchanged(x, twin, true);
        }
    }

    /** As asks(): what is refused changes nothing, and leaves CODE as it was. */
    static void refused(Scenes.Scene scene, Call call, int want) {
        asks(scene, call, want);
    }

    /** Answers 0 with a CODE above 0, and changes nothing else. */
    static void coded(Scenes.Scene scene, Call call, int code) {
        for (boolean first : new boolean[] {true, false}) {
            Real x = spoiled(scene, first), twin = spoiled(scene, first);
            due(x, call.on(x), 0);
            String named = x.latest();
            checks++;
            if (x.code() != code) fault(named + " has CODE " + x.code() + ", due is " + code);
            dueUnchanged(x, twin, false);
        }
    }

    /** A call that names CODES does its work: CODE is 0. Answers the object, to be asked what became of it. */
    static Real taken(Scenes.Scene scene, Call call, long want) {
        Real x = spoiled(scene, true);
        due(x, call.on(x), want);
        due(x, x.code(), 0);
        return x;
    }

    /** A call that names no CODES does its work: CODE is as it was. */
    static Real done(Scenes.Scene scene, Call call, long want) {
        Real x = spoiled(scene, true);
        due(x, call.on(x), want);
        due(x, x.code(), 4);
        return x;
    }

    /** Two ways lead to the same, but for CODE. */
    static void alike(Scenes.Scene one, Scenes.Scene other) {
        dueUnchanged(Scenes.real(one), Scenes.real(other), false);
    }

    /** The scene, and then more of it. */
    static Scenes.Scene then(Scenes.Scene scene, Scenes.Scene more) {
        return x -> {
            scene.on(x);
            more.on(x);
        };
    }

    /** A SHEET that is there to show whether it stays as it is. */
    private static void layOutSheet(Bench x) {
        x.sheet(3, 2, 2);
        x.put(3, 2, 1, 66);
    }

    /** WORTH 0 alone, TOLD, with these VALUES of the SETS 1, 2, .. */
    static Scenes.Scene told(int things, int... values) {
        return x -> {
            layOutSheet(x);
            x.things(things);
            x.worth(0);
            for (int i = 0; i < values.length; i++) x.tell(0, i + 1, values[i]);
        };
    }

    /** Ten THINGS; WORTH 0 is TOLD, and 0 but for one SET. */
    static Scenes.Scene ten(int set, int value) {
        return then(told(10), x -> x.tell(0, set, value));
    }

    /** WORTH 0 is a SUM of these PRICES alone. */
    static Scenes.Scene priced(int... prices) {
        return x -> {
            layOutSheet(x);
            x.things(prices.length);
            x.sum();
            for (int t = 0; t < prices.length; t++) x.price(0, t, prices[t]);
        };
    }

    /** There is no such WORTH, whatever else is asked. */
    static void dueNoWorth(CallOn call) {
        for (int w : numbers(-1, 9, 12, MIN, MAX)) refused(Scenes::free, x -> call.on(x, w), UNKNOWN);
        for (int w : numbers(-1, 12)) refused(Scenes::full, x -> call.on(x, w), UNKNOWN);
        refused(x -> { }, x -> call.on(x, 0), UNKNOWN);
        refused(then(Scenes::free, x -> x.things(3)), x -> call.on(x, 0), UNKNOWN);
    }

    static int[] numbers(int... some) {
        return some;
    }

    /** The end of a test: each promise that it is for has been named. */
    static void end(int first, int last) {
        for (int p = first; p <= last; p++) {
            if (!PROMISES.contains(p)) {
                wrong++;
                System.out.println("promise " + p + " has no test");
            }
        }
        System.out.println(sentences + " sentences, " + checks + " answers and states, " + wrong + " not as due");
        if (wrong != 0) System.exit(1);
    }
}
