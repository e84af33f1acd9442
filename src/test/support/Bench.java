/** The document's face as an interface, so that the class and its model can be asked the same. */
interface Bench {
    int NONE = -1, UNKNOWN = -1001, OUTSIDE = -1002, NOT = -1003, FULL = -1004, LARGE = -1005;

    int things(int n);
    int sheet(int s, int form, int n);
    int tear(int s);
    long put(int s, int form, int i, long v);
    long at(int s, int i);
    int worth(int kind);
    int sum();
    int part(int w, int set);
    int beyond(int w, int set);
    int kind(int w);
    int count(int what, int w);
    int tell(int w, int set, int v);
    int read(int w, int s);
    int line(int w, int a, int b, int width);
    int spot(int w, int weight, int set);
    int row(int w, int thing, int a, int b, int c, int d);
    int rise(int w, int v);
    int add(int w, int p, int factor);
    int price(int w, int thing, int v);
    int code();
    long value(int w, int set);
    long adds(int w, int set, int thing);
    int falls(int w);
    int why(int w, int what);
    long least(int w);
    int all(int w, int what);
    int one(int w, int i);
    long level(int w, int k);
    int bends(int w);
    long bend(int w, int i, int what);
    int order(int t, int i);
    int corner(int w);
    int mix(int w, int f, int g);
    long share(int t, long v);
    long shareOf(int t);
    int in(int w);
    int proves(int w);
    int greed(int w, int k);
    long best(int w, int k);
}
