import java.util.function.IntToLongFunction;

/** What the tests share: answers that are due by the words of DOC.md that ask them, and short ways to a state. */
abstract class Due {
    static final int NONE = -1, BAD = -2, STATE = -3, FULL = -4, NEVER = -5;
    static final int NOTHING = -11, CAST = -12, PLACE = -13, SIZE = -14;
    static final int NONE_TO_TELL_OF = -10001, NONE_TO_GIVE = -1001, BAD_GIFT = -1002;
    static final long NO = Long.MIN_VALUE;
    static final int MIN = Integer.MIN_VALUE, MAX = Integer.MAX_VALUE;

    static final int HOUSE = 0, GLASS = 1, SAND = 2, SHADE = 3, OVEN = 4, DEEP = 5, TOLD = 6;

    /** Neither sun nor cold: what is warm stays so. */
    static final String STILL = "sun 0 h<9;cold 0 h<9;low 30;high 50";
    /** The same, and nothing is amiss from 0 to 99: what a clock stands on. */
    static final String WIDE = "sun 0 h<9;cold 0 h<9;low 0;high 99";

    static {
        Watch.begin();
    }

    private static String words = "";
    private static int said;
    private static int looked;
    private static int wrong;

    /** Looks at one sentence of the document; a test of it that looks at nothing is none. */
    static void says(String itsWords, Runnable test) {
        words = itsWords;
        said++;
        int before = looked;
        test.run();
        due("answers looked at: " + (looked - before), looked > before ? 1 : 0, 1);
    }

    static void due(String what, long got, long want) {
        looked++;
        if (got != want) {
            wrong++;
            System.out.println(words + ": " + what + " answered " + got + ", due is " + want);
        }
    }

    static void end() {
        System.out.println(wrong == 0 ? looked + " answers to " + said + " sentences are as due"
            : wrong + " of " + looked + " answers are not as due");
        if (wrong != 0) {
            System.exit(1);
        }
    }

    /** One step below the least, at it, within, at the most, one step beyond it, and as far out as can be. */
    static void bounds(String what, int least, int most, IntToLongFunction call, long out, IntToLongFunction in) {
        for (int n : new int[] {MIN, least - 1, most + 1, MAX}) {
            due(what + " " + n, call.applyAsLong(n), out);
        }
        for (int n : new int[] {least, least + 1, most - 1, most}) {
            due(what + " " + n, call.applyAsLong(n), in.applyAsLong(n));
        }
    }

    static void bounds(String what, int least, int most, IntToLongFunction call, long out, long in) {
        bounds(what, least, most, call, out, n -> in);
    }

    /** The first items of a tape. */
    static void row(LongNoon x, int tape, int... items) {
        for (int i = 0; i < items.length; i++) {
            due("item " + i + " of " + tape, x.read(tape, i), items[i]);
        }
    }

    // ---- short ways to a state

    static void feed(LongNoon x, String text) {
        for (int i = 0; i < text.length(); i++) {
            x.feed(text.charAt(i));
        }
    }

    static int ground(LongNoon x, String text) {
        feed(x, text);
        return x.ground();
    }

    static void fault(String text, int place) {
        due("fault in " + text, ground(new LongNoon(), text), -10 - place);
    }

    static void fine(String text) {
        due("fine " + text, ground(new LongNoon(), text), 0);
    }

    static LongNoon on(String text) {
        LongNoon x = new LongNoon();
        due("ground " + text, ground(x, text), 0);
        return x;
    }

    static LongNoon with(String text, int kind, int v, int heat, int cap) {
        LongNoon x = on(text);
        due("house", x.house(kind, v, heat, cap), 0);
        return x;
    }

    static LongNoon made(int kind, int v, int heat, int cap) {
        LongNoon x = new LongNoon();
        due("house", x.house(kind, v, heat, cap), 0);
        return x;
    }

    static void days(LongNoon x, int n) {
        for (int i = 0; i < n; i++) {
            x.day();
        }
    }

    /** One more house, TOLD, that without sun and cold is so much (-4 .. 5) warmer by each day: its number. */
    static int clock(LongNoon x, int heat, int cap, int step) {
        int house = x.house(TOLD, 0, heat, cap);
        for (int part = 0; part < 4; part++) {
            x.row(house, part, 4 + step);
        }
        return house;
    }

    /** Tape 0: 1 .. 5; tape 1: three times 0. */
    static LongNoon counted(int sort) {
        LongNoon x = new LongNoon();
        x.tape(0, sort, 5);
        x.tape(1, sort, 3);
        for (int i = 0; i < 5; i++) {
            x.item(0, i, i + 1);
        }
        return x;
    }

    /** House 0, CAP 99, on day 1: its heat is 10 more by its third day from then, moon 3, and by no other of 28. */
    static LongNoon onDayOne(String limits, int heat) {
        LongNoon x = with("sun 10 m=3&h=0;cold 0 h<9;" + limits, HOUSE, 0, heat, 99);
        x.day();
        x.set(0, 0, heat);
        x.set(0, 1, 0);
        return x;
    }

    static LongNoon clocked(String text, int heat, int cap, int step) {
        LongNoon x = on(text);
        due("clock", clock(x, heat, cap, step), 0);
        return x;
    }
}
