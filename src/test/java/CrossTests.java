import java.lang.reflect.Method;
import java.util.ArrayList;
import java.util.Arrays;
import java.util.LinkedHashMap;
import java.util.List;
import java.util.Map;
import java.util.TreeSet;
import java.util.concurrent.atomic.AtomicInteger;
import java.util.stream.Collectors;

/**
 * In each scene each call with all that its arguments can be at their edges, each with each, so that any two REFUSALS and
 * CODES meet that can; its answer, its CODE and all that it changes are held against the model.
 */
public final class CrossTests {
    private static final int MIN = Integer.MIN_VALUE, MAX = Integer.MAX_VALUE;
    private static final String[] CALLS = {
        "things 0..10", "sheet sheet form 0..1100", "tear sheet", "put sheet form place number", "at sheet place",
        "worth 0..4", "sum", "part worth set", "beyond worth set", "kind worth", "count 0..6 worth",
        "tell worth set -1000000..1000000", "read worth sheet", "line worth thing thing 0..10000",
        "spot worth 0..10000 set", "row worth thing row row row row", "rise worth -10000..10000",
        "add worth worth 0..100", "price worth thing -100000..100000", "code", "value worth set", "adds worth set thing",
        "falls worth", "why worth 0..2", "least worth", "all worth 0..3", "one worth 0..3", "level worth count", "bends worth",
        "bend worth 0..2 0..3", "order thing thing", "corner worth", "mix worth 0..1000 0..1000",
        "share thing -1000000000000..1000000000000", "shareOf thing", "in worth", "proves worth", "greed worth 0..10",
        "best worth 0..10",
    };
    private static final Map<String, Scenes.Scene> SCENES = new LinkedHashMap<>();
    private static final AtomicInteger asked = new AtomicInteger(), wrong = new AtomicInteger();

    static {
        SCENES.put("new", x -> { });
        for (int things : new int[] {0, 1, 2, 3}) SCENES.put("free, things " + things, x -> Scenes.free(x, things));
        SCENES.put("held", Scenes::held);
        SCENES.put("full", Scenes::full);
        SCENES.put("full and held", Scenes::fullAndHeld);
        SCENES.put("large", Scenes::large);
        SCENES.put("large and full", Scenes::largeAndFull);
        SCENES.put("large behind free", Scenes::largeBehindFree);
        SCENES.put("ten things", x -> {
            Scenes.free(x, 10);
            x.sum();
            for (int p : new int[] {0, 1, 2, 4}) x.add(9, p, 2);
        });
        SCENES.put("fewer things than before", x -> {
            Scenes.held(x, 6);
            x.things(2);
            for (int kind = 0; kind < 5; kind++) x.worth(kind);
            x.sum();
        });
    }

    private static List<Long> edges(String sort, Bench x) {
        int things = x.count(0, 0);
        switch (sort) {
            case "worth": return each(-1, x.count(1, 0));
            case "thing": return few(MIN, -2, -1, 0, 1, things - 1, things, MAX);
            case "set": return few(MIN, -1, 0, 1, (1 << things) - 1, 1 << things, MAX);
            case "count": return few(MIN, -1, 0, 1, things, things + 1, MAX);
            case "sheet": return each(-1, 4);
            case "form": return each(-1, 3);
            case "place": return few(MIN, -1, 0, 1, 2, 3, 7, 8, 9, MAX);
            case "number": return few(0, 1, 127, 128, -129, 1L << 31, -(1L << 31) - 1, Long.MIN_VALUE, Long.MAX_VALUE, -1001);
            case "row": return few(-100, 99, 1);
            default: return around(sort);
        }
    }

    private static List<Long> each(long low, long high) {
        List<Long> found = new ArrayList<>();
        for (long v = low; v <= high; v++) found.add(v);
        return found;
    }

    private static List<Long> few(long... numbers) {
        return new ArrayList<>(Arrays.stream(numbers).boxed().collect(Collectors.toCollection(TreeSet::new)));
    }

    private static List<Long> around(String bounds) {
        int dots = bounds.indexOf("..");
        long low = Long.parseLong(bounds.substring(0, dots)), high = Long.parseLong(bounds.substring(dots + 2));
        return few(MIN, low - 1, low, 1, (low + high) / 2 + 1, high, high + 1, MAX);
    }

    private static List<Object[]> combinations(Method method, List<List<Long>> pools) {
        List<Object[]> found = new ArrayList<>();
        found.add(new Object[0]);
        for (int i = 0; i < pools.size(); i++) {
            List<Object[]> longer = new ArrayList<>();
            for (Object[] start : found) {
                for (long v : pools.get(i)) {
                    Object[] next = Arrays.copyOf(start, i + 1);
                    if (method.getParameterTypes()[i] == long.class) next[i] = v;
                    else next[i] = (int) v;
                    longer.add(next);
                }
            }
            found = longer;
        }
        return found;
    }

    /** CODE is 4, or else 1 or 3, ahead of the call; so one that must leave it is told from one that does not. */
    private static void spoilCode(Bench x, boolean first) {
        if (first) x.sheet(0, 0, -1);
        else x.at(0, -1);
    }

    private static long answer(Method method, Bench x, Object[] arguments) {
        try {
            return ((Number) method.invoke(x, arguments)).longValue();
        } catch (ReflectiveOperationException e) {
            throw new IllegalStateException(method.getName() + Arrays.toString(arguments), e);
        }
    }

    private static void hold(String scene, Method method, Object[] arguments) {
        boolean first = asked.incrementAndGet() % 2 == 0;
        Bench real = Scenes.real(SCENES.get(scene)), model = new Model();
        SCENES.get(scene).on(model);
        spoilCode(real, first);
        spoilCode(model, first);
        long got = answer(method, real, arguments), want = answer(method, model, arguments);
        String fault = got != want ? "answered " + got + ", due is " + want : new Picture(real).unlike(new Picture(model), true);
        if (fault != null && wrong.incrementAndGet() < 50) {
            System.out.println(scene + ": " + method.getName() + Arrays.toString(arguments) + ": " + fault);
        }
    }

    private static void cross(String scene, String call) {
        String[] words = call.split(" ");
        Method method = Arrays.stream(Bench.class.getMethods()).filter(m -> m.getName().equals(words[0])).findFirst().get();
        Bench x = Scenes.real(SCENES.get(scene));
        List<List<Long>> pools = new ArrayList<>();
        for (int i = 1; i < words.length; i++) pools.add(edges(words[i], x));
        combinations(method, pools).parallelStream().forEach(arguments -> hold(scene, method, arguments));
    }

    public static void main(String[] args) {
        for (String scene : SCENES.keySet()) {
            for (String call : CALLS) cross(scene, call);
        }
        System.out.println(asked + " calls in " + SCENES.size() + " scenes, " + wrong + " not as the model");
        if (wrong.get() != 0) System.exit(1);
    }
}
