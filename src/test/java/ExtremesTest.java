/**
 * No call may throw or fail to end, for any arguments in any state: each call with all that lies at, just below and
 * just beyond the bounds of its numbers, together, on an empty, a filled and a full object, answered as by PlainNoon.
 */
public final class ExtremesTest {
    /** By how many numbers a call takes: the more, the fewer of each. */
    private static final long[][] EDGES = {
        {},
        {Integer.MIN_VALUE, -2, -1, 0, 1, 2, 3, 4, 5, 6, 7, 8, 9, 10, 11, 12, 19, 20, 28, 30, 31, 56, 59, 60, 61, 99,
            100, 127, 128, 190, 199, 200, 9999, Integer.MAX_VALUE},
        {Integer.MIN_VALUE, -2, -1, 0, 1, 2, 3, 4, 5, 6, 9, 10, 59, 60, 61, 99, 100, Integer.MAX_VALUE},
        {Integer.MIN_VALUE, -1, 0, 1, 2, 4, 5, 6, 9, 10, 30, 31, 60, 61, 99, 100, 199, 200, Integer.MAX_VALUE},
        {Integer.MIN_VALUE, -1, 0, 6, 7, 9, 10, 99, 100, 199, 200, Integer.MAX_VALUE},
        {Integer.MIN_VALUE, -1, 0, 1, 2, 5, 6, Integer.MAX_VALUE}
    };
    /** No object is used for more. */
    private static final int CALLS = 512;

    private static long asked = 0;
    private static boolean same = true;

    public static void main(String[] args) {
        for (int state = 0; state < 3; state++) {
            for (String name : Pair.names()) {
                tryAll(name, state);
            }
        }
        System.out.println(same ? asked + " calls with extreme numbers: every answer is as PlainNoon's"
            : "PlainNoon answers otherwise");
        if (!same) {
            System.exit(1);
        }
    }

    /** Calls with each edge at each place, and gets a new pair before the one it has is used up. */
    private static void tryAll(String name, int state) {
        int numbers = Pair.numbersOf(name);
        long[] edges = EDGES[numbers];
        long all = 1;
        for (int i = 0; i < numbers; i++) {
            all *= edges.length;
        }
        Pair p = made(state);
        for (long k = 0; k < all && same; k++) {
            if (p.calls() >= CALLS - 20) {
                p = made(state);
            }
            long[] with = new long[numbers];
            long rest = k;
            for (int i = 0; i < numbers; i++) {
                with[i] = edges[(int) (rest % edges.length)];
                rest /= edges.length;
            }
            p.call(name, with);
            asked++;
            if (k == all - 1 || p.calls() >= CALLS - 20) {
                lookBack(p);
            }
            same = !p.differs();
        }
    }

    /** What the calls have left behind. */
    private static void lookBack(Pair p) {
        for (int what = 0; what < 6; what++) {
            p.call("count", what);
        }
        for (int house = 0; house < 6; house++) {
            p.call("of", house, 2);
            p.call("of", house, 3);
        }
        p.call("looked");
    }

    private static Pair made(int state) {
        Pair p = new Pair();
        if (state > 0) {
            boolean full = state == 2;
            for (int i = 0; full && i < 5; i++) {
                p.feed("low 3" + i);
                p.call("ground");
            }
            p.feed("sun 9 h<6;cold 8 m>20;low 25;high 75");
            p.call("ground");
            fill(p, full);
            p.feed(full ? "low 1" + ";low 1".repeat(9) + "x".repeat(41) : "low 3");
        }
        return p;
    }

    private static void fill(Pair p, boolean full) {
        int houses = full ? 6 : 3;
        for (int i = 0; i < houses; i++) {
            p.call("house", 6 - i, 9 - i, 40 + 9 * i, 20 * i);
            p.call("set", i, 1, 7 * i);
            p.call("set", i, 2, i);
        }
        p.call("image");
        p.call("row", 0, 2, 9);
        p.call("act", 0, 2, 5);
        for (int i = 0; i < (full ? 8 : 2); i++) {
            p.call("see", i % houses, i, 7 * i);
        }
        for (int i = 0; i < (full ? 12 : 2); i++) {
            p.call("book", i % houses);
        }
        for (int tape = 1; tape <= (full ? 6 : 3); tape++) {
            p.call("tape", tape % 6, tape % 5, full ? 60 : 6);
            p.call("item", tape % 6, tape, 40);
        }
    }
}
