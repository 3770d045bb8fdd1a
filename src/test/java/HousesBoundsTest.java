/** HOUSES, what is theirs, and DAY: each sentence of DOC.md that names a bound of them (promises 1 to 5 and 8). */
public final class HousesBoundsTest extends Due {
    public static void main(String[] args) {
        says("No HOUSES, no GROUND", HousesBoundsTest::nothingYet);
        says("HOUSES 0 .. 5, as they come; FULL: 6", HousesBoundsTest::sixHouses);
        says("of KINDS: 0 .. 6; NONE: kind", HousesBoundsTest::kinds);
        says("with a number v (0 .. 9)", HousesBoundsTest::numbers);
        says("HEAT (0 .. 199)", HousesBoundsTest::heats);
        says("CAP 0 .. 99", HousesBoundsTest::caps);
        says("its STORE holds nothing", HousesBoundsTest::nothingHeld);
        says("a STORE that holds 0 .. CAP", HousesBoundsTest::stores);
        says("BAD: n (more than ROOM, too)", HousesBoundsTest::storesOfKinds);
        says("ROOM of a STORE: CAP; SAND, DEEP: CAP and v", HousesBoundsTest::rooms);
        says("a LEAK (0 .. 9; 0 at first)", HousesBoundsTest::leaks);
        says("set: what 0 .. 2; n: what it was", HousesBoundsTest::set);
        says("its ROW (four numbers 0 .. 9; 4 at first)", HousesBoundsTest::rows);
        says("STATE: another KIND", HousesBoundsTest::rowsOfOthers);
        says("its ROW at MOON modulo 4, less 4", HousesBoundsTest::rowsByMoon);
        says("of: what 0 .. 9; -10001: NONE", HousesBoundsTest::of);
        says("a HOUSE in the place of one that an undo() took", HousesBoundsTest::builtAnew);
        says("DAY: 0 at first; MOON is DAY modulo 28", HousesBoundsTest::moons);
        says("it is LIGHT, if MOON is below 14, else DARK", HousesBoundsTest::light);
        says("told: what 0 .. 4; NONE", HousesBoundsTest::told);
        end();
    }

    private static void nothingYet() {
        LongNoon x = new LongNoon();
        for (int what = 0; what <= 5; what++) {
            due("count(" + what + ")", x.count(what), 0);
        }
        due("of(0, 0)", x.of(0, 0), NONE_TO_TELL_OF);
        due("low", x.told(3), 20);
        due("high", x.told(4), 80);
        due("never()", x.never(), 0);
        due("big(0)", x.big(0), 0);
        due("big(1)", x.big(1), 0);
        due("day()", x.day(), 0);
        due("looked()", x.looked(), NEVER);
        due("undo()", x.undo(), STATE);
        due("trace(0)", x.trace(0), NONE);
        for (int tape = 0; tape <= 5; tape++) {
            due("item of " + tape, x.item(tape, 0, 1), NOTHING);
        }
        due("the first GROUND's number", ground(x, "low 1"), 0);
        due("the first HOUSE's number", x.house(HOUSE, 0, 0, 0), 0);
    }

    private static void sixHouses() {
        LongNoon x = new LongNoon();
        for (int i = 0; i < 6; i++) {
            due("not yet " + i, x.of(i, 0), NONE_TO_TELL_OF);
            due("house " + i, x.house(i, 9 - i, 30 + i, 40 + i), i);
            due("how many", x.count(0), i + 1);
        }
        due("a seventh", x.house(HOUSE, 0, 50, 40), FULL);
        due("a seventh is none", x.of(6, 0), NONE_TO_TELL_OF);
        due("six stay", x.count(0), 6);
        for (int i = 0; i < 6; i++) {
            due("kind of " + i, x.of(i, 0), i);
            due("v of " + i, x.of(i, 1), 9 - i);
            due("heat of " + i, x.of(i, 2), 30 + i);
            due("cap of " + i, x.of(i, 4), 40 + i);
        }
        due("below the first", x.of(-1, 0), NONE_TO_TELL_OF);
    }

    private static void kinds() {
        bounds("kind", 0, 6, k -> new LongNoon().house(k, 0, 50, 40), NONE, 0);
        bounds("its kind", 0, 6, k -> made(k < 0 || k > 6 ? 0 : k, 0, 50, 40).of(0, 0), 0, k -> k);
    }

    private static void numbers() {
        bounds("v", 0, 9, v -> new LongNoon().house(HOUSE, v, 50, 40), BAD, 0);
        for (int v = 0; v <= 9; v++) {
            due("v", made(HOUSE, v, 50, 40).of(0, 1), v);
        }
    }

    private static void heats() {
        bounds("heat", 0, 199, h -> new LongNoon().house(HOUSE, 0, h, 40), BAD, 0);
        bounds("heat set", 0, 199, h -> made(HOUSE, 0, 50, 40).set(0, 0, h), BAD, 50);
        for (int h : new int[] {0, 1, 198, 199}) {
            due("heat", made(HOUSE, 0, h, 40).of(0, 2), h);
            LongNoon x = made(HOUSE, 0, 50, 40);
            x.set(0, 0, h);
            due("heat set", x.of(0, 2), h);
        }
    }

    private static void caps() {
        bounds("cap", 0, 99, c -> new LongNoon().house(HOUSE, 0, 50, c), BAD, 0);
        for (int c : new int[] {0, 1, 98, 99}) {
            due("cap", made(HOUSE, 0, 50, c).of(0, 4), c);
        }
    }

    private static void nothingHeld() {
        for (int kind = 0; kind <= 6; kind++) {
            due("what its store holds", made(kind, 9, 199, 99).of(0, 3), 0);
        }
    }

    private static void stores() {
        bounds("store", 0, 40, n -> made(HOUSE, 0, 50, 40).set(0, 1, n), BAD, 0);
        bounds("the largest store", 0, 99, n -> made(HOUSE, 9, 50, 99).set(0, 1, n), BAD, 0);
        LongNoon x = made(HOUSE, 9, 50, 0);
        due("no room, none", x.set(0, 1, 0), 0);
        due("no room", x.set(0, 1, 1), BAD);
        due("below", x.set(0, 1, -1), BAD);
        LongNoon y = made(HOUSE, 0, 50, 40);
        y.set(0, 1, 40);
        due("at its room", y.of(0, 3), 40);
        y.set(0, 1, 41);
        due("still at its room", y.of(0, 3), 40);
    }

    private static void storesOfKinds() {
        for (int kind = 0; kind <= 6; kind++) {
            int room = kind == SAND || kind == DEEP ? 49 : 40;
            int itsKind = kind;
            bounds("store of kind " + kind, 0, room, n -> made(itsKind, 9, 50, 40).set(0, 1, n), BAD, 0);
        }
        bounds("the deepest", 0, 108, n -> made(DEEP, 9, 50, 99).set(0, 1, n), BAD, 0);
        bounds("sand without v", 0, 99, n -> made(SAND, 0, 50, 99).set(0, 1, n), BAD, 0);
    }

    private static void rooms() {
        for (int kind = 0; kind <= 6; kind++) {
            boolean isDeep = kind == SAND || kind == DEEP;
            due("least room of kind " + kind, made(kind, 0, 50, 0).of(0, 6), 0);
            due("room by v of kind " + kind, made(kind, 9, 50, 0).of(0, 6), isDeep ? 9 : 0);
            due("room by cap of kind " + kind, made(kind, 0, 50, 99).of(0, 6), 99);
            due("most room of kind " + kind, made(kind, 9, 50, 99).of(0, 6), isDeep ? 108 : 99);
        }
    }

    private static void leaks() {
        due("at first", made(HOUSE, 9, 50, 40).of(0, 5), 0);
        bounds("leak", 0, 9, n -> made(HOUSE, 0, 50, 40).set(0, 2, n), BAD, 0);
        for (int leak = 0; leak <= 9; leak++) {
            LongNoon x = made(HOUSE, 0, 50, 40);
            x.set(0, 2, leak);
            due("leak", x.of(0, 5), leak);
        }
    }

    private static void set() {
        LongNoon x = made(HOUSE, 0, 50, 40);
        for (int what = 0; what <= 2; what++) {
            x.set(0, what, 5);
        }
        bounds("what", 0, 2, what -> x.set(0, what, 5), NONE, 5);
        int[] was = {5, 5, 5};
        int[] then = {0, 1, 9};
        for (int what = 0; what <= 2; what++) {
            due("what it was", x.set(0, what, then[what]), was[what]);
            due("and is", x.set(0, what, then[what]), then[what]);
        }
        due("the heat alone", x.of(0, 2), 0);
        due("the store alone", x.of(0, 3), 1);
        due("the leak alone", x.of(0, 5), 9);
        due("cap stays", x.of(0, 4), 40);
    }

    private static void rows() {
        bounds("part", 0, 3, part -> made(TOLD, 0, 50, 40).row(0, part, 7), NONE, 4);
        bounds("n", 0, 9, n -> made(TOLD, 0, 50, 40).row(0, 0, n), BAD, 4);
        LongNoon x = made(TOLD, 0, 50, 40);
        for (int part = 0; part < 4; part++) {
            due("at first", x.row(0, part, part), 4);
        }
        for (int part = 0; part < 4; part++) {
            due("each its own", x.row(0, part, 9), part);
            due("the most", x.row(0, part, 0), 9);
            due("the least", x.row(0, part, 10), BAD);
            due("it stays", x.row(0, part, 0), 0);
        }
    }

    private static void rowsOfOthers() {
        for (int kind = 0; kind < 6; kind++) {
            LongNoon x = made(kind, 0, 50, 40);
            due("kind " + kind, x.row(0, 0, 4), STATE);
            due("kind " + kind, x.row(0, 3, 9), STATE);
        }
        due("told", made(TOLD, 0, 50, 40).row(0, 3, 9), 4);
    }

    private static void rowsByMoon() {
        LongNoon x = with("sun 0 h<9;cold 0 h<9", TOLD, 0, 50, 0);
        int[] row = {0, 9, 3, 5};
        for (int part = 0; part < 4; part++) {
            due("4 less 4", x.of(0, 9), 0);
            x.row(0, part, row[part]);
            x.set(0, 0, 50);
            due("by its row", x.of(0, 9), row[part] - 4);
            x.day();
        }
        days(x, 23);
        due("moon 27 is part 3", x.of(0, 9), 1);
        x.day();
        due("moon 0 is part 0", x.of(0, 9), -4);
        x.day();
        due("moon 1 is part 1", x.of(0, 9), 5);
    }

    private static void of() {
        LongNoon x = made(HOUSE, 3, 50, 40);
        x.set(0, 1, 6);
        x.set(0, 2, 7);
        int[] all = {HOUSE, 3, 50, 6, 40, 7, 40, 10, 0, 10};
        bounds("what", 0, 9, what -> x.of(0, what), NONE_TO_TELL_OF, what -> all[what]);
        bounds("house", 0, 1, house -> {
            LongNoon y = made(HOUSE, 0, 50, 40);
            y.house(HOUSE, 0, 51, 40);
            return y.of(house, 2);
        }, NONE_TO_TELL_OF, house -> 50 + house);
    }

    private static void builtAnew() {
        LongNoon x = new LongNoon();
        x.image();
        x.house(TOLD, 9, 199, 99);
        for (int part = 0; part < 4; part++) {
            x.row(0, part, 9);
        }
        x.set(0, 1, 99);
        x.set(0, 2, 9);
        due("undone", x.undo(), 0);
        due("gone", x.of(0, 0), NONE_TO_TELL_OF);
        due("anew", x.house(TOLD, 0, 10, 5), 0);
        due("its store holds nothing", x.of(0, 3), 0);
        due("its leak is 0 at first", x.of(0, 5), 0);
        for (int part = 0; part < 4; part++) {
            due("its row is 4 at first", x.row(0, part, 0), 4);
        }
    }

    private static void moons() {
        LongNoon x = new LongNoon();
        int[] moons = {0, 1, 13, 14, 27, 0, 1, 27, 0};
        int[] on = {0, 1, 13, 14, 27, 28, 29, 55, 56};
        for (int i = 0; i < on.length; i++) {
            while (x.told(0) < on[i]) {
                x.day();
            }
            due("day", x.told(0), on[i]);
            due("moon of day " + on[i], x.told(1), moons[i]);
        }
    }

    private static void light() {
        LongNoon x = made(HOUSE, 0, 50, 40);
        int[] from = {0, 14, 28, 42, 56};
        for (int part = 0; part < 4; part++) {
            int is = part % 2 == 0 ? 1 : 0;
            due("the first day, " + from[part], x.told(2), is);
            due("sun", x.of(0, 7), 10 * is);
            due("cold", x.of(0, 8), 10 - 10 * is);
            days(x, 13);
            due("the last day, " + (from[part] + 13), x.told(2), is);
            due("sun", x.of(0, 7), 10 * is);
            due("cold", x.of(0, 8), 10 - 10 * is);
            x.day();
        }
        due("the next moon", x.told(2), 1);
    }

    private static void told() {
        LongNoon x = on("low 33;high 66");
        days(x, 29);
        int[] all = {29, 1, 1, 33, 66};
        bounds("what", 0, 4, what -> x.told(what), NONE, what -> all[what]);
    }
}
