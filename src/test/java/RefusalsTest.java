import java.util.ArrayList;
import java.util.List;
import java.util.function.Supplier;
import java.util.function.ToLongFunction;

/**
 * What is refused is answered as DOC.md tells, by the first that the call's words name, and changes nothing; nor
 * does what is asked: an object that was called so and one that was not answer all later calls alike.
 */
public final class RefusalsTest extends Due {
    private static final int[] NO_HOUSE = {MIN, -2, -1, 6, 7, MAX};
    private static final int[] NO_TAPE = {MIN, -1, 6, MAX};

    public static void main(String[] args) {
        String[] names = {"a new object", "one with some of all", "one that is full"};
        List<Supplier<LongNoon>> states = List.of(LongNoon::new, RefusalsTest::some, RefusalsTest::full);
        for (int i = 0; i < names.length; i++) {
            Supplier<LongNoon> state = states.get(i);
            int kind = i;
            says("What is answered so changes nothing: " + names[i], () -> {
                housesRefused(state, kind);
                daysRefused(state, kind);
                seenRefused(state, kind);
                tapesRefused(state, kind);
            });
            says("what is asked changes nothing: " + names[i], () -> asked(state));
        }
        says("FULL, once all else is right", RefusalsTest::fullRefused);
        says("-10 less the FAULT: THE TEXT alone is gone", RefusalsTest::faultRefused);
        says("STATE: DAY is 9999", RefusalsTest::dayRefused);
        says("no TRACE then: no such HOUSE, act", RefusalsTest::actRefused);
        end();
    }

    // ---- three states

    private static LongNoon some() {
        LongNoon x = on("sun 9 h<6;cold 8 m>20;low 25;high 75");
        x.house(GLASS, 3, 50, 60);
        x.house(TOLD, 5, 70, 20);
        x.image();
        x.house(DEEP, 9, 30, 99);
        x.set(0, 1, 17);
        x.set(1, 2, 4);
        x.set(2, 1, 105);
        x.row(1, 2, 8);
        x.day();
        x.see(0, 2, 17);
        x.see(2, 0, 105);
        x.book(1);
        x.book(2);
        ground(x, "low 2x");
        feed(x, "low 1");
        x.act(1, 2, 6);
        x.tape(1, 1, 3);
        x.item(1, 0, 64);
        x.tape(2, 2, 4);
        x.item(2, 3, 77);
        return x;
    }

    private static LongNoon full() {
        LongNoon x = new LongNoon();
        for (int i = 0; i < 6; i++) {
            ground(x, "low 2" + i);
        }
        x.image();
        int[] kinds = {TOLD, GLASS, SAND, SHADE, OVEN, DEEP};
        for (int i = 0; i < 6; i++) {
            x.house(kinds[i], i, 50 + i, 20 + i);
            x.set(i, 1, 3 * i);
            x.set(i, 2, i);
        }
        for (int i = 0; i < 8; i++) {
            x.see(i % 6, 0, 3 * (i % 6));
        }
        for (int i = 0; i < 12; i++) {
            x.book(i % 6);
        }
        for (int tape = 0; tape < 6; tape++) {
            x.tape(tape, tape % 5, 2);
            x.item(tape, 1, 1);
        }
        feed(x, "low 1" + ";low 1".repeat(9) + "x".repeat(41));
        x.act(4, 2, 9);
        days(x, 3);
        return x;
    }

    // ---- whether two are alike

    /** All that can be asked of the object as it is, then of what it keeps behind that; fewer than 300 calls. */
    private static List<Long> answers(LongNoon x) {
        List<Long> all = new ArrayList<>();
        tellAll(x, all);
        all.add((long) x.feed('7'));
        all.add((long) x.ground());
        for (int what = 3; what <= 4; what++) {
            all.add((long) x.told(what));
        }
        all.add((long) x.day());
        all.add((long) x.undo());
        tellAll(x, all);
        return all;
    }

    private static void tellAll(LongNoon x, List<Long> all) {
        for (int what = 0; what <= 5; what++) {
            all.add((long) x.count(what));
            all.add((long) x.told(what));
        }
        for (int house = 0; house <= 5; house++) {
            for (int what = 0; what <= 9; what++) {
                all.add((long) x.of(house, what));
            }
            all.add((long) x.leaks(house));
        }
        for (int part = 0; part < 4; part++) {
            all.add((long) x.row(0, part, part));
            all.add((long) x.row(1, part, part));
        }
        for (int tape = 0; tape <= 5; tape++) {
            for (int i = 0; i < 4; i++) {
                all.add(x.read(tape, i));
            }
        }
        for (int i = 0; i < 12; i++) {
            all.add((long) x.trace(i));
        }
        all.add((long) x.looked());
    }

    /** The call answers so, and an object behind it is as one without it. */
    private static void same(Supplier<LongNoon> state, String what, ToLongFunction<LongNoon> call, long want) {
        LongNoon x = state.get();
        due(what, call.applyAsLong(x), want);
        due(what + ", again", call.applyAsLong(x), want);
        unchanged(what, x, state.get());
    }

    private static void unchanged(String what, LongNoon x, LongNoon y) {
        List<Long> got = answers(x);
        List<Long> want = answers(y);
        int at = 0;
        while (at < got.size() && got.get(at).equals(want.get(at))) {
            at++;
        }
        due(what + " changed nothing, up to the answer", at, got.size());
    }

    // ---- what is refused, in every state

    private static void housesRefused(Supplier<LongNoon> s, int kind) {
        for (int k : new int[] {MIN, -1, 7, MAX}) {
            same(s, "house of kind " + k, x -> x.house(k, 0, 50, 40), NONE);
            same(s, "house of kind " + k + ", all else bad too", x -> x.house(k, 10, 200, 100), NONE);
        }
        for (int[] bad : new int[][] {{-1, 0, 0}, {10, 0, 0}, {0, -1, 0}, {0, 200, 0}, {0, 0, -1}, {0, 0, 100},
            {10, 200, 100}, {MIN, 50, 40}, {0, MAX, 40}, {0, 50, MIN}}) {
            same(s, "house", x -> x.house(0, bad[0], bad[1], bad[2]), BAD);
        }
        for (int house : NO_HOUSE) {
            same(s, "of house " + house, x -> x.of(house, 0), NONE_TO_TELL_OF);
            same(s, "of house " + house, x -> x.of(house, 10), NONE_TO_TELL_OF);
            same(s, "set of house " + house, x -> x.set(house, 0, 1), NONE);
            same(s, "set of house " + house, x -> x.set(house, 0, -1), NONE);
            same(s, "row of house " + house, x -> x.row(house, 0, 1), NONE);
            same(s, "row of house " + house, x -> x.row(house, 0, 10), NONE);
        }
        for (int sign : new int[] {MIN, -1, 128, 255, 256, MAX}) {
            same(s, "sign " + sign, x -> x.feed(sign), BAD);
        }
        for (int what : new int[] {MIN, -1, 5, MAX}) {
            same(s, "told " + what, x -> x.told(what), NONE);
        }
        if (kind == 0) {
            return;
        }
        int told = kind == 1 ? 1 : 0;
        for (int what : new int[] {MIN, -1, 3, MAX}) {
            same(s, "set what " + what, x -> x.set(0, what, 1), NONE);
            same(s, "set what " + what, x -> x.set(0, what, -1), NONE);
        }
        int room = kind == 1 ? 60 : 20;
        for (int[] bad : new int[][] {{0, -1}, {0, 200}, {1, -1}, {1, room + 1}, {2, -1}, {2, 10}, {0, MIN}, {1, MAX}}) {
            same(s, "set what " + bad[0], x -> x.set(0, bad[0], bad[1]), BAD);
        }
        same(s, "of what -1", x -> x.of(0, -1), NONE_TO_TELL_OF);
        same(s, "of what 10", x -> x.of(0, 10), NONE_TO_TELL_OF);
        for (int part : new int[] {MIN, -1, 4, MAX}) {
            same(s, "row part " + part, x -> x.row(told, part, 1), NONE);
            same(s, "row part " + part, x -> x.row(1 - told, part, 10), NONE);
        }
        for (int n : new int[] {MIN, -1, 10, MAX}) {
            same(s, "row n " + n, x -> x.row(told, 1, n), BAD);
            same(s, "row n " + n, x -> x.row(1 - told, 1, n), BAD);
        }
        same(s, "row of another kind", x -> x.row(1 - told, 1, 5), STATE);
    }

    private static void daysRefused(Supplier<LongNoon> s, int kind) {
        for (int house : NO_HOUSE) {
            same(s, "on of house " + house, x -> x.on(house, 1, 0), NONE);
            same(s, "on of house " + house, x -> x.on(house, 61, 0), NONE);
            same(s, "first of house " + house, x -> x.first(house), NONE);
            same(s, "cap of house " + house, x -> x.cap(house), NONE);
            same(s, "full of house " + house, x -> x.full(house), NONE);
            same(s, "heat of house " + house, x -> x.heat(house, 0), NONE);
            same(s, "turn of house " + house, x -> x.turn(house, 0), NONE);
            same(s, "gives of house " + house, x -> x.gives(house, 0, 1), NONE_TO_GIVE);
            same(s, "gives to house " + house, x -> x.gives(0, house, 1), NONE_TO_GIVE);
            same(s, "gives of house to itself " + house, x -> x.gives(house, house, 100), NONE_TO_GIVE);
            same(s, "alike of house " + house, x -> x.alike(house, 0), NONE);
            same(s, "alike to house " + house, x -> x.alike(0, house), NONE);
            same(s, "alike of house to itself " + house, x -> x.alike(house, house), NONE);
        }
        for (int what : new int[] {MIN, -1, 2, MAX}) {
            same(s, "big " + what, x -> x.big(what), NONE);
        }
        if (kind == 0) {
            return;
        }
        for (int what : new int[] {MIN, -1, 3, MAX}) {
            same(s, "on what " + what, x -> x.on(0, 1, what), NONE);
            same(s, "on what " + what, x -> x.on(0, 61, what), NONE);
        }
        for (int n : new int[] {MIN, -1, 61, MAX}) {
            same(s, "on n " + n, x -> x.on(0, n, 0), BAD);
        }
        for (int what : new int[] {MIN, -1, 2, MAX}) {
            same(s, "heat what " + what, x -> x.heat(0, what), NONE);
            same(s, "turn what " + what, x -> x.turn(0, what), NONE);
        }
        for (int n : new int[] {MIN, -1, 100, MAX}) {
            same(s, "gives n " + n, x -> x.gives(0, 1, n), BAD_GIFT);
        }
        same(s, "gives of one house", x -> x.gives(1, 1, 1), BAD_GIFT);
        same(s, "alike of one house", x -> x.alike(1, 1), BAD);
    }

    private static void seenRefused(Supplier<LongNoon> s, int kind) {
        for (int house : NO_HOUSE) {
            if (house != -1) {
                same(s, "see of house " + house, x -> x.see(house, 0, 0), NONE);
                same(s, "see of house " + house, x -> x.see(house, 31, 200), NONE);
                same(s, "book of house " + house, x -> x.book(house), NONE);
            }
            same(s, "leaks of house " + house, x -> x.leaks(house), NONE);
            same(s, "dry of house " + house, x -> x.dry(house), NONE);
            same(s, "odds of house " + house, x -> x.odds(house, 0), NO);
        }
        for (int n : new int[] {MIN, -1, 0, 61, MAX}) {
            same(s, "mean of " + n, x -> x.mean(n, 0), NO);
        }
        for (int part : new int[] {MIN, -1, 2, MAX}) {
            same(s, "mean part " + part, x -> x.mean(1, part), NO);
            same(s, "odds part " + part, x -> x.odds(0, part), NO);
        }
        if (kind == 0) {
            return;
        }
        for (int[] bad : new int[][] {{-1, 0}, {31, 0}, {0, -1}, {0, 200}, {MIN, 0}, {0, MAX}}) {
            same(s, "see", x -> x.see(0, bad[0], bad[1]), BAD);
        }
    }

    private static void tapesRefused(Supplier<LongNoon> s, int kind) {
        for (int tape : NO_TAPE) {
            same(s, "judge tape " + tape, x -> x.judge(tape, 0), NONE);
            same(s, "tape " + tape, x -> x.tape(tape, 0, 1), NONE);
            same(s, "tape " + tape, x -> x.tape(tape, -1, 1), NONE);
            same(s, "tape " + tape, x -> x.tape(tape, 5, -1), NONE);
            same(s, "item of tape " + tape, x -> x.item(tape, 0, 9), NONE);
            same(s, "read of tape " + tape, x -> x.read(tape, 0), NO);
            same(s, "shift of tape " + tape, x -> x.shift(tape, 0, 1, 0, 0), NONE);
            same(s, "shift to tape " + tape, x -> x.shift(1, 0, tape, 0, 0), NONE);
        }
        for (int sort : new int[] {MIN, -2, 5, MAX}) {
            same(s, "tape of sort " + sort, x -> x.tape(1, sort, 1), BAD);
            same(s, "tape of sort " + sort, x -> x.tape(1, sort, -1), BAD);
        }
        for (int n : new int[] {61, MAX}) {
            same(s, "tape of " + n, x -> x.tape(1, 1, n), BAD);
        }
        for (int n : new int[] {MIN, -1}) {
            same(s, "tape of " + n, x -> x.tape(1, 1, n), SIZE);
        }
        for (int k : new int[] {MIN, -1, 7, MAX}) {
            same(s, "taken for " + k, x -> x.taken(0, k), BAD);
            same(s, "taken for " + k, x -> x.taken(6, k), BAD);
        }
        for (int house : NO_HOUSE) {
            same(s, "taken of house " + house, x -> x.taken(house, 0), NOTHING);
        }
        for (int what : new int[] {MIN, -1, 6, MAX}) {
            same(s, "count " + what, x -> x.count(what), BAD);
        }
        for (int i : new int[] {MIN, -1, 20, MAX}) {
            same(s, "trace " + i, x -> x.trace(i), NONE);
        }
        for (int i : new int[] {MIN, -1, 4, MAX}) {
            same(s, "item at " + i, x -> x.item(2, i, 9), kind == 0 ? NOTHING : PLACE);
            same(s, "read at " + i, x -> x.read(2, i), NO);
            same(s, "shift from " + i, x -> x.shift(2, i, 2, 0, 1), kind == 0 ? NOTHING : PLACE);
            same(s, "shift to " + i, x -> x.shift(2, 0, 2, i, 1), kind == 0 ? NOTHING : PLACE);
        }
        same(s, "shift of unlike sorts", x -> x.shift(1, 0, 2, 0, 1), kind == 0 ? NOTHING : CAST);
        same(s, "judge of ints", x -> x.judge(2, 0), kind == 0 ? NEVER : CAST);
        if (kind == 0) {
            same(s, "undo", x -> x.undo(), STATE);
        } else {
            same(s, "taken", x -> x.taken(1, OVEN), CAST);
        }
    }

    // ---- what is asked

    private static void asked(Supplier<LongNoon> s) {
        List<ToLongFunction<LongNoon>> asks = new ArrayList<>();
        for (int house = 0; house < 6; house++) {
            int h = house;
            asks.addAll(List.of(x -> x.of(h, 9), x -> x.on(h, 60, 0), x -> x.on(h, 60, 1), x -> x.on(h, 60, 2),
                x -> x.first(h), x -> x.cap(h), x -> x.full(h), x -> x.heat(h, 0)));
            asks.addAll(List.of(x -> x.heat(h, 1), x -> x.turn(h, 0), x -> x.turn(h, 1), x -> x.leaks(h),
                x -> x.dry(h), x -> x.odds(h, 0), x -> x.odds(h, 1), x -> x.taken(h, 0)));
            for (int other = 0; other < 6; other++) {
                int o = other;
                asks.addAll(List.of(x -> x.gives(h, o, 99), x -> x.alike(h, o)));
            }
        }
        asks.addAll(List.of(x -> x.told(0), x -> x.never(), x -> x.big(0), x -> x.big(1), x -> x.mean(60, 0)));
        asks.addAll(List.of(x -> x.mean(60, 1), x -> x.looked(), x -> x.judge(1, 0), x -> x.trace(0)));
        asks.addAll(List.of(x -> x.count(0), x -> x.read(1, 0)));
        for (int i = 0; i < asks.size(); i++) {
            LongNoon x = s.get();
            long first = asks.get(i).applyAsLong(x);
            due("ask " + i + ", again", asks.get(i).applyAsLong(x), first);
            unchanged("ask " + i, x, s.get());
        }
    }

    // ---- what only some states refuse

    private static void fullRefused() {
        Supplier<LongNoon> s = RefusalsTest::full;
        same(s, "a seventh house", x -> x.house(0, 0, 50, 40), FULL);
        same(s, "a 101st sign", x -> x.feed('a'), FULL);
        same(s, "a seventh ground", x -> x.ground(), FULL);
        same(s, "a ninth seen", x -> x.see(0, 0, 0), FULL);
        same(s, "a thirteenth row", x -> x.book(0), FULL);
        Supplier<LongNoon> empty = () -> {
            LongNoon x = full();
            x.ground();
            return x;
        };
        same(empty, "a seventh ground", x -> x.ground(), FULL);
    }

    private static void faultRefused() {
        for (String text : new String[] {"x", "low 7;", "sun 9 h<9;cold 9 h<9;low 1;high 9;x", "low 7;high 8;low"}) {
            LongNoon x = some();
            x.ground();
            LongNoon y = some();
            y.ground();
            unchanged("nothing", x, y);
            x = some();
            x.ground();
            feed(x, text);
            due("a fault in " + text, x.ground() <= -10 ? 1 : 0, 1);
            y = some();
            y.ground();
            unchanged("a fault in " + text, x, y);
        }
    }

    private static void dayRefused() {
        Supplier<LongNoon> s = () -> {
            LongNoon x = some();
            days(x, 9998);
            return x;
        };
        due("the last day", s.get().told(0), 9999);
        same(s, "one more", x -> x.day(), STATE);
    }

    private static void actRefused() {
        int[][] none = {{-1, 0}, {3, 0}, {6, 0}, {0, -1}, {0, 3}, {MIN, 0}, {0, MAX}};
        for (int[] by : none) {
            Supplier<LongNoon> s = () -> {
                LongNoon x = some();
                x.act(3, 0, 0);
                return x;
            };
            same(s, "act " + by[1] + " of house " + by[0], x -> x.act(by[0], by[1], 5), 0);
            LongNoon x = some();
            due("bodies ahead", x.count(5) > 0 ? 1 : 0, 1);
            due("act", x.act(by[0], by[1], 5), 0);
            due("no bodies", x.count(5), 0);
            due("no trace", x.trace(0), NONE);
        }
    }
}
