import java.util.Arrays;

/** The class itself behind the interface. It knows its latest call, and allows the 512 calls of the document alone. */
final class Real implements Bench {
    static final int MOST_CALLS = 512;

    private final FallingGains x = new FallingGains();
    private int calls;
    private String name = "new FallingGains";
    private long[] arguments = {};

    private void next(String called, long... with) {
        calls++;
        name = called;
        arguments = with;
        if (calls > MOST_CALLS) throw new IllegalStateException("a test asks for more than the calls that are promised");
    }

    int calls() {
        return calls;
    }

    String latest() {
        String list = Arrays.toString(arguments);
        return name + "(" + list.substring(1, list.length() - 1) + ")";
    }

    @Override public int things(int n) {
        next("things", n);
        return x.things(n);
    }

    @Override public int sheet(int s, int form, int n) {
        next("sheet", s, form, n);
        return x.sheet(s, form, n);
    }

    @Override public int tear(int s) {
        next("tear", s);
        return x.tear(s);
    }

    @Override public long put(int s, int form, int i, long v) {
        next("put", s, form, i, v);
        return x.put(s, form, i, v);
    }

    @Override public long at(int s, int i) {
        next("at", s, i);
        return x.at(s, i);
    }

    @Override public int worth(int kind) {
        next("worth", kind);
        return x.worth(kind);
    }

    @Override public int sum() {
        next("sum");
        return x.sum();
    }

    @Override public int part(int w, int set) {
        next("part", w, set);
        return x.part(w, set);
    }

    @Override public int beyond(int w, int set) {
        next("beyond", w, set);
        return x.beyond(w, set);
    }

    @Override public int kind(int w) {
        next("kind", w);
        return x.kind(w);
    }

    @Override public int count(int what, int w) {
        next("count", what, w);
        return x.count(what, w);
    }

    @Override public int tell(int w, int set, int v) {
        next("tell", w, set, v);
        return x.tell(w, set, v);
    }

    @Override public int read(int w, int s) {
        next("read", w, s);
        return x.read(w, s);
    }

    @Override public int line(int w, int a, int b, int width) {
        next("line", w, a, b, width);
        return x.line(w, a, b, width);
    }

    @Override public int spot(int w, int weight, int set) {
        next("spot", w, weight, set);
        return x.spot(w, weight, set);
    }

    @Override public int row(int w, int thing, int a, int b, int c, int d) {
        next("row", w, thing, a, b, c, d);
        return x.row(w, thing, a, b, c, d);
    }

    @Override public int rise(int w, int v) {
        next("rise", w, v);
        return x.rise(w, v);
    }

    @Override public int add(int w, int p, int factor) {
        next("add", w, p, factor);
        return x.add(w, p, factor);
    }

    @Override public int price(int w, int thing, int v) {
        next("price", w, thing, v);
        return x.price(w, thing, v);
    }

    @Override public int code() {
        next("code");
        return x.code();
    }

    @Override public long value(int w, int set) {
        next("value", w, set);
        return x.value(w, set);
    }

    @Override public long adds(int w, int set, int thing) {
        next("adds", w, set, thing);
        return x.adds(w, set, thing);
    }

    @Override public int falls(int w) {
        next("falls", w);
        return x.falls(w);
    }

    @Override public int why(int w, int what) {
        next("why", w, what);
        return x.why(w, what);
    }

    @Override public long least(int w) {
        next("least", w);
        return x.least(w);
    }

    @Override public int all(int w, int what) {
        next("all", w, what);
        return x.all(w, what);
    }

    @Override public int one(int w, int i) {
        next("one", w, i);
        return x.one(w, i);
    }

    @Override public long level(int w, int k) {
        next("level", w, k);
        return x.level(w, k);
    }

    @Override public int bends(int w) {
        next("bends", w);
        return x.bends(w);
    }

    @Override public long bend(int w, int i, int what) {
        next("bend", w, i, what);
        return x.bend(w, i, what);
    }

    @Override public int order(int t, int i) {
        next("order", t, i);
        return x.order(t, i);
    }

    @Override public int corner(int w) {
        next("corner", w);
        return x.corner(w);
    }

    @Override public int mix(int w, int f, int g) {
        next("mix", w, f, g);
        return x.mix(w, f, g);
    }

    @Override public long share(int t, long v) {
        next("share", t, v);
        return x.share(t, v);
    }

    @Override public long shareOf(int t) {
        next("shareOf", t);
        return x.shareOf(t);
    }

    @Override public int in(int w) {
        next("in", w);
        return x.in(w);
    }

    @Override public int proves(int w) {
        next("proves", w);
        return x.proves(w);
    }

    @Override public int greed(int w, int k) {
        next("greed", w, k);
        return x.greed(w, k);
    }

    @Override public long best(int w, int k) {
        next("best", w, k);
        return x.best(w, k);
    }
}
