/**
 * All that can be seen of an object. What answers keep hidden (the form of a SHEET, PRICES, RISES, rows) is brought out
 * by calls that change the object, so a Picture is the last that an object is asked for.
 */
final class Picture {
    private static final int[] PLACES = {0, 1, 2, 3, 7, 8, 1023, 1024, 1099};

    private final Bench x;
    private final String[] names = new String[Real.MOST_CALLS];
    private final long[] numbers = new long[Real.MOST_CALLS];
    private int size;

    Picture(Bench x) {
        this.x = x;
        see("code", x.code());
        int things = (int) see("THINGS", x.count(0, 0));
        int worths = (int) see("WORTHS", x.count(1, 0));
        int[] sets = setsToLookAt(things);
        for (int w = 0; w < worths; w++) seeWorth(w, sets);
        for (int t = Bench.NONE; t < things; t++) see("share", x.shareOf(t));
        for (int t = 0; t < things; t++) seePlaceInOrder(t);
        for (int s = 0; s < 4; s++) seeSheet(s);
        if (things > 0) {
            for (int w = 0; w < worths; w++) bringOut(w, things);
        }
    }

    private long see(String name, long number) {
        names[size] = name;
        numbers[size] = number;
        size++;
        return number;
    }

    /** Of many THINGS not all SETS: an object has only so many calls. */
    private static int[] setsToLookAt(int things) {
        int all = (1 << things) - 1;
        if (things > 3) return new int[] {0, 1, 2, 3, all / 2, all / 2 + 1, all - 1, all};
        int[] sets = new int[all + 1];
        for (int set = 0; set <= all; set++) sets[set] = set;
        return sets;
    }

    private void seeWorth(int w, int[] sets) {
        see("kind", x.kind(w));
        for (int what = 2; what < 7; what++) see("count", x.count(what, w));
        for (int set : sets) see("value", x.value(w, set));
    }

    private void seePlaceInOrder(int t) {
        int place = (int) see("place in the order", x.order(t, 0));
        x.order(t, place);
    }

    private void seeSheet(int s) {
        for (int i : PLACES) {
            see("number of a sheet", x.at(s, i));
            see("place of a sheet", x.code());
        }
        for (int form = 0; form < 3; form++) {
            x.put(s, form, 0, 1);
            see("form of a sheet", x.code());
        }
    }

    private void bringOut(int w, int things) {
        int all = (1 << things) - 1;
        switch (x.kind(w)) {
            case 3:
                for (int t : new int[] {0, things - 1}) {
                    x.row(w, t, 0, t, 0, 1);
                    see("rank", x.value(w, all));
                    see("rank", x.value(w, all & 3));
                }
                break;
            case 4:
                x.rise(w, -9999);
                see("sum of rises", x.value(w, all));
                break;
            case 5:
                for (int t = 0; t < Math.min(things, 3); t++) see("price", x.price(w, t, 0));
                see("price", x.price(w, things - 1, 0));
                break;
            default:
                break;
        }
    }

    /** What is unlike in the other one, or null. The CODE, which comes first, can be left out. */
    String unlike(Picture other, boolean codeToo) {
        for (int i = codeToo ? 0 : 1; i < Math.max(size, other.size); i++) {
            if (numbers[i] != other.numbers[i]) {
                return names[i] + " (" + i + "): " + numbers[i] + ", due is " + other.numbers[i];
            }
        }
        return null;
    }
}
