/** Judging, THE IMAGE, ACTS and TAPES: each sentence of DOC.md that names a bound (promises 27 to 37). */
public final class TapesBoundsTest extends Due {
    private static final int BYTES = 0, SHORTS = 1, INTS = 2, LONGS = 3, BOOLEANS = 4;

    public static void main(String[] args) {
        says("JUDGED: the first that is otherwise", TapesBoundsTest::judged);
        says("JUDGED: -5: none, or there is none to look at", TapesBoundsTest::noneToLookAt);
        says("JUDGED: 100 and how many were looked at, if the row ends ahead of that", TapesBoundsTest::rowEnds);
        says("JUDGED: 100, if the place is below 0, or the TAPE holds nothing", TapesBoundsTest::noPlace);
        says("judge: CAST: it is no row of shorts", TapesBoundsTest::noShorts);
        says("image, undo: how many HOUSES; STATE: there is none", TapesBoundsTest::image);
        says("THE IMAGE: HOUSES with all that is theirs, DAY, SEEN, the BOOK, which GROUND holds",
            TapesBoundsTest::allOfTheImage);
        says("ACTS: 0 warms, 1 stores, 2 tells; 0, and no TRACE then", TapesBoundsTest::acts);
        says("with x (wrapping)", TapesBoundsTest::wraps);
        says("BODIES: warms(..): the body of its KIND, or of the next KIND above", TapesBoundsTest::bodies);
        says("THE TRACE: the first 20 are kept; its i-th; NONE", TapesBoundsTest::trace);
        says("taken: KIND k (0 .. 6), or one under that; CAST", TapesBoundsTest::taken);
        says("count: 0 .. 5; BAD", TapesBoundsTest::count);
        says("TAPES 0 .. 5 hold nothing (at first)", TapesBoundsTest::sixTapes);
        says("tape: n (0 .. 60); SIZE: a size below 0", TapesBoundsTest::sizes);
        says("tape: a row of a sort, all 0, or nothing (sort -1: n does not matter)", TapesBoundsTest::sorts);
        says("item: v (its lowest bits, as many as an item has)", TapesBoundsTest::bits);
        says("item: booleans: whether v is not 0", TapesBoundsTest::booleans);
        says("item: PLACE; NOTHING", TapesBoundsTest::places);
        says("read: NO: no such TAPE, nothing there, no such place", TapesBoundsTest::read);
        says("shift: PLACE: n, i or j is below 0, or beyond either's end", TapesBoundsTest::shiftPlaces);
        says("shift: as they all were before", TapesBoundsTest::shiftWithin);
        says("shift: CAST: of unlike sorts", TapesBoundsTest::shiftSorts);
        says("An object is used for at most 512 calls", TapesBoundsTest::manyCalls);
        end();
    }

    /** Three houses of heat 0, 199 and 50, and a row of n shorts (tape 2) that from that place on tells them. */
    private static LongNoon three(int n, int from) {
        LongNoon x = new LongNoon();
        int[] heats = {0, 199, 50};
        due("a row", x.tape(2, SHORTS, n), 1);
        for (int i = 0; i < heats.length; i++) {
            x.house(HOUSE, 0, heats[i], 0);
            x.item(2, from + i, heats[i]);
        }
        return x;
    }

    private static void judged() {
        for (int from : new int[] {0, 1, 56, 57}) {
            for (int other = 0; other < 3; other++) {
                LongNoon x = three(60, from);
                due("as it is, from " + from, x.judge(2, from), NEVER);
                long was = x.read(2, from + other);
                x.item(2, from + other, was + 1);
                due("one more", x.judge(2, from), other);
                x.item(2, from + other, was - 1);
                due("one less", x.judge(2, from), other);
                x.item(2, from + 2, 77);
                due("the first of two", x.judge(2, from), other);
                x.item(2, from + other, was + 65536);
                due("its lowest bits", x.judge(2, from), other == 2 ? NEVER : 2);
            }
        }
        LongNoon x = three(60, 0);
        x.item(2, 3, 9);
        due("what stands behind does not matter", x.judge(2, 0), NEVER);
        due("asked changes nothing", x.of(1, 2), 199);
    }

    private static void noneToLookAt() {
        LongNoon x = new LongNoon();
        due("nothing there", x.judge(0, 0), NEVER);
        due("below 0", x.judge(0, -1), NEVER);
        x.tape(0, SHORTS, 0);
        due("a row of 0", x.judge(0, 0), NEVER);
        x.tape(0, SHORTS, 3);
        due("a row", x.judge(0, 0), NEVER);
        due("its end", x.judge(0, 3), NEVER);
        due("beyond", x.judge(0, 4), NEVER);
        due("far beyond", x.judge(0, MAX), NEVER);
        x.house(HOUSE, 0, 0, 0);
        due("one house", x.judge(0, 0), NEVER);
        due("one house, otherwise", x.set(0, 0, 1), 0);
        due("one house, otherwise", x.judge(0, 0), 0);
    }

    private static void rowEnds() {
        for (int n : new int[] {0, 1, 2, 3, 4}) {
            LongNoon x = three(n, 0);
            due("a row of " + n, x.judge(2, 0), n < 3 ? 100 + n : NEVER);
            due("from its end on", x.judge(2, n), 100);
            due("from beyond its end on", x.judge(2, n + 1), 100);
        }
        for (int from : new int[] {56, 57, 58, 59, 60}) {
            due("60 from " + from, three(60, from).judge(2, from), from < 58 ? NEVER : 160 - from);
        }
        LongNoon x = three(2, 0);
        x.item(2, 1, 198);
        due("otherwise ahead of the end", x.judge(2, 0), 1);
        due("far beyond", x.judge(2, MAX), 100);
        due("far beyond", x.judge(2, MAX - 1), 100);
        LongNoon six = new LongNoon();
        six.tape(5, SHORTS, 5);
        for (int i = 0; i < 6; i++) {
            six.house(HOUSE, 0, 0, 0);
        }
        due("five of six", six.judge(5, 0), 105);
        six.tape(5, SHORTS, 6);
        due("six of six", six.judge(5, 0), NEVER);
    }

    private static void noPlace() {
        LongNoon x = three(3, 0);
        due("0", x.judge(2, 0), NEVER);
        due("-1", x.judge(2, -1), 100);
        due("far below", x.judge(2, MIN), 100);
        for (int tape : new int[] {0, 1, 3, 4, 5}) {
            due("nothing in tape " + tape, x.judge(tape, 0), 100);
            due("nothing in tape " + tape, x.judge(tape, -1), 100);
        }
        bounds("tape", 0, 5, tape -> x.judge(tape, 0), NONE, tape -> tape == 2 ? NEVER : 100);
    }

    private static void noShorts() {
        for (int sort = BYTES; sort <= BOOLEANS; sort++) {
            LongNoon x = made(HOUSE, 0, 0, 0);
            x.tape(0, sort, 3);
            due("sort " + sort, x.judge(0, 0), sort == SHORTS ? NEVER : CAST);
            due("below 0", x.judge(0, -1), sort == SHORTS ? 100 : CAST);
            x.tape(0, sort, 0);
            due("a row of 0", x.judge(0, 0), sort == SHORTS ? 100 : CAST);
            x.tape(0, -1, 0);
            due("nothing", x.judge(0, 0), 100);
        }
    }

    private static void image() {
        for (int many = 0; many <= 6; many++) {
            LongNoon x = new LongNoon();
            due("there is none", x.undo(), STATE);
            for (int i = 0; i < many; i++) {
                due("house", x.house(HOUSE, 0, 50 + i, 40), i);
            }
            due("image", x.image(), many);
            for (int again = 0; again < 2; again++) {
                x.set(0, 0, 99);
                x.day();
                for (int i = many; i < 7; i++) {
                    due("one more house", x.house(GLASS, 9, 9, 9), i < 6 ? i : FULL);
                }
                due("undo", x.undo(), many);
                due("houses", x.count(0), many);
                due("the first", x.of(0, 2), many == 0 ? NONE_TO_TELL_OF : 50);
                due("the last", x.of(many - 1, 2), many == 0 ? NONE_TO_TELL_OF : 49 + many);
                due("none behind", x.of(many, 2), NONE_TO_TELL_OF);
            }
        }
        LongNoon x = new LongNoon();
        x.image();
        x.house(HOUSE, 0, 50, 40);
        due("the newest image", x.image(), 1);
        x.house(HOUSE, 0, 50, 40);
        due("counts", x.undo(), 1);
    }

    private static void allOfTheImage() {
        LongNoon x = with("low 5", TOLD, 7, 50, 40);
        x.set(0, 1, 20);
        x.set(0, 2, 3);
        x.row(0, 3, 9);
        x.see(0, 0, 20);
        x.book(0);
        due("image", x.image(), 1);
        ground(x, "low 6");
        x.set(0, 0, 0);
        x.set(0, 1, 0);
        x.set(0, 2, 0);
        x.row(0, 3, 0);
        days(x, 3);
        x.see(-1, 0, 0);
        x.book(-1);
        due("undo", x.undo(), 1);
        int[] all = {TOLD, 7, 50, 20, 40, 3, 40, 10, 0, 5};
        for (int what = 0; what < all.length; what++) {
            due("of " + what, x.of(0, what), all[what]);
        }
        due("its row", x.row(0, 3, 1), 9);
        due("day", x.told(0), 0);
        due("low", x.told(3), 5);
        due("seen", x.count(2), 1);
        due("what is seen", x.leaks(0), 1023);
        due("book", x.count(3), 1);
        due("what is in it", x.looked(), 0);
        x.see(-1, 0, 0);
        contentsOfTheImage();
        for (int i = 0; i < 8; i++) {
            x.see(0, 1, 11 + i);
        }
        for (int i = 0; i < 12; i++) {
            x.book(0);
        }
        due("the image of what is full", x.image(), 1);
        x.see(-1, 0, 0);
        x.book(-1);
        due("undo", x.undo(), 1);
        due("eight", x.count(2), 8);
        due("the eighth of them", x.see(0, 0, 0), FULL);
        due("twelve", x.count(3), 12);
        due("and full", x.book(0), FULL);
        due("what is seen", x.leaks(0), 0);
        LongNoon y = on("low 7");
        due("with a ground", y.image(), 0);
        for (int i = 1; i < 6; i++) {
            due("a ground", ground(y, "low 1" + i), i);
        }
        due("undo", y.undo(), 0);
        due("the first one holds", y.told(3), 7);
        due("there are six all the same", ground(y, "low 1"), FULL);
    }

    /** Other things of the same number have come to SEEN and the BOOK, when what THE IMAGE kept comes back. */
    private static void contentsOfTheImage() {
        LongNoon x = with(STILL, HOUSE, 0, 40, 99);
        x.house(HOUSE, 0, 60, 0);
        x.set(0, 1, 20);
        x.see(0, 2, 14);
        x.see(1, 1, 0);
        x.book(1);
        x.book(0);
        x.image();
        int[][] others = {{1, 2, 14}, {0, 3, 14}, {0, 2, 12}};
        for (int[] other : others) {
            x.see(-1, 0, 0);
            x.see(other[0], other[1], other[2]);
            x.see(0, 0, 19);
            x.book(-1);
            x.book(0);
            x.book(1);
            due("other things", x.leaks(0), 0);
            due("other rows", x.looked(), 0);
            due("undo", x.undo(), 2);
            due("two are seen", x.count(2), 2);
            due("what was seen", x.leaks(0), 8);
            due("what was in the book", x.looked(), 1);
        }
    }

    private static void acts() {
        LongNoon x = made(HOUSE, 2, 50, 40);
        int[] all = {5, 3, 6};
        bounds("act", 0, 2, act -> x.act(0, act, 5), 0, act -> all[act]);
        bounds("house", 0, 1, house -> {
            LongNoon y = made(HOUSE, 2, 50, 40);
            y.house(HOUSE, 2, 50, 40);
            return y.act(house, 0, 5);
        }, 0, house -> 5 + house);
        for (int[] none : new int[][] {{-1, 0}, {1, 0}, {6, 0}, {0, -1}, {0, 3}, {MIN, MIN}, {MAX, MAX}}) {
            x.act(0, 2, 5);
            due("three bodies", x.count(5), 3);
            due("no such one", x.act(none[0], none[1], 5), 0);
            due("no body", x.count(5), 0);
            due("no trace", x.trace(0), NONE);
        }
    }

    private static LongNoon seven(int last) {
        LongNoon x = new LongNoon();
        for (int kind = 0; kind < 5; kind++) {
            x.house(kind, kind + 1, 50, 40);
        }
        x.house(last, 9, 50, 40);
        return x;
    }

    private static void wraps() {
        LongNoon x = seven(DEEP);
        due("MAX and 0", x.act(0, 0, MAX), MAX);
        due("MIN less 1", x.act(0, 1, MIN), MAX);
        due("MIN less 1, by 2", x.act(0, 2, MIN), -2);
        due("MAX and 1", x.act(1, 0, MAX), MIN);
        due("3 times MAX, and 2", x.act(2, 0, MAX), MAX);
        due("3 times MIN, and 2", x.act(2, 0, MIN), MIN + 2);
        due("MIN is its own negative", x.act(4, 0, MAX - 3), MIN);
        due("MAX and 1 more", x.act(4, 1, MAX), (-(MIN + 4) - 5) ^ 6);
        due("x less i", x.act(5, 2, MIN), ((MIN - 5) * 3 + 5 - 9) * 2);
        x = seven(TOLD);
        due("MAX and 5, and v's bits", x.act(5, 0, MAX), MIN + 4 ^ 9);
    }

    private static void bodies() {
        LongNoon x = seven(DEEP);
        int[][] answers = {{10, 9, 18}, {11, 15, 30}, {32, 29, 58}, {13, 9, 18}, {-14, -22, -44}, {35, 26, 22}};
        for (int house = 0; house < 6; house++) {
            for (int act = 0; act < 3; act++) {
                due("act " + act + " of " + house, x.act(house, act, 10), answers[house][act]);
            }
        }
        x = seven(TOLD);
        // warms: 15 ^ 9; stores: (6 less 9) and 7; tells: 2 times that, and that of 1.
        due("told warms", x.act(5, 0, 10), 6);
        due("told stores", x.act(5, 1, 10), 4);
        due("told tells", x.act(5, 2, 10), 8 + 13);
    }

    private static void trace(LongNoon x, int... bodies) {
        for (int i = 0; i < bodies.length; i++) {
            due("body " + i, x.trace(i), bodies[i]);
        }
        for (int i : new int[] {MIN, -1, bodies.length, 19, 20, 21, MAX}) {
            due("body " + i, x.trace(i), NONE);
        }
        due("all that ran", x.count(5), bodies.length);
    }

    private static void trace() {
        LongNoon x = seven(TOLD);
        trace(x);
        x.act(0, 0, 1);
        trace(x, 10);
        x.act(5, 2, 1);
        trace(x, 40, 12, 70, 11, 71, 10, 10, 70, 11, 71, 10, 10);
        x.act(5, 1, 1);
        trace(x, 70, 11, 71, 10, 10);
        x.act(5, 0, 1);
        trace(x, 71, 10);
        x.act(4, 2, 1);
        trace(x, 12, 51, 20, 11, 50, 10);
        x.act(3, 2, 1);
        trace(x, 40, 12, 11, 10, 11, 10);
        x.day();
        x.image();
        x.undo();
        trace(x, 40, 12, 11, 10, 11, 10);
        x.act(6, 0, 1);
        trace(x);
        x = seven(DEEP);
        x.act(5, 2, 1);
        trace(x, 60, 12, 11, 30, 10);
        x.act(1, 1, 1);
        trace(x, 20, 11, 10);
        x.act(2, 2, 1);
        trace(x, 12, 11, 30, 10);
    }

    private static void taken() {
        int[][] above = {{0}, {0, 1}, {0, 2}, {0, 3}, {0, 1, 4}, {0, 2, 5}, {0, 3, 6}};
        for (int kind = 0; kind <= 6; kind++) {
            LongNoon x = made(kind, 0, 50, 40);
            int its = kind;
            bounds("k of " + kind, 0, 6, k -> x.taken(0, k), BAD, k -> {
                for (int a : above[its]) {
                    if (a == k) {
                        return its;
                    }
                }
                return CAST;
            });
            for (int k = 0; k <= 6; k++) {
                due("no house", x.taken(1, k), NOTHING);
                due("no house", x.taken(-1, k), NOTHING);
            }
        }
        LongNoon x = made(GLASS, 0, 50, 40);
        due("glass is no sand", x.taken(0, SAND), CAST);
        due("glass is no oven", x.taken(0, OVEN), CAST);
        due("BAD first", x.taken(1, 7), BAD);
    }

    private static void count() {
        LongNoon x = new LongNoon();
        bounds("what", 0, 5, what -> x.count(what), BAD, 0);
        ground(x, "low 1");
        ground(x, "low 2");
        x.house(HOUSE, 0, 50, 40);
        x.see(0, 0, 0);
        x.see(0, 0, 0);
        x.see(0, 0, 0);
        for (int i = 0; i < 4; i++) {
            x.book(0);
        }
        feed(x, "abcde");
        x.act(0, 1, 0);
        int[] all = {1, 2, 3, 4, 5, 2};
        bounds("what", 0, 5, what -> x.count(what), BAD, what -> all[what]);
    }

    private static void sixTapes() {
        LongNoon x = new LongNoon();
        for (int tape = 0; tape <= 5; tape++) {
            due("nothing at first", x.item(tape, 0, 1), NOTHING);
            due("nothing at first", x.read(tape, 0), NO);
        }
        bounds("tape", 0, 5, tape -> x.tape(tape, INTS, 2), NONE, 1);
        bounds("item of tape", 0, 5, tape -> x.item(tape, 1, 7), NONE, tape -> {
            x.tape(tape, INTS, 2);
            return x.item(tape, 1, 7);
        });
        for (int tape = 0; tape <= 5; tape++) {
            x.tape(tape, INTS, 2);
            x.item(tape, 1, 10 + tape);
        }
        bounds("read of tape", 0, 5, tape -> x.read(tape, 1), NO, tape -> 10 + tape);
        for (int tape = 0; tape <= 5; tape++) {
            due("each its own", x.read(tape, 1), 10 + tape);
        }
        bounds("shift from tape", 0, 5, tape -> x.shift(tape, 0, 0, 0, 1), NONE, 1);
        bounds("shift to tape", 0, 5, tape -> x.shift(0, 0, tape, 0, 1), NONE, 1);
    }

    private static void sizes() {
        for (int n : new int[] {MIN, -60, -1}) {
            due("n " + n, new LongNoon().tape(0, LONGS, n), SIZE);
        }
        for (int n : new int[] {61, 62, MAX}) {
            due("n " + n, new LongNoon().tape(0, LONGS, n), BAD);
        }
        for (int n : new int[] {0, 1, 2, 59, 60}) {
            LongNoon x = new LongNoon();
            due("n " + n, x.tape(0, LONGS, n), 1);
            due("its last item", x.item(0, n - 1, 5), n == 0 ? PLACE : 1);
            due("its last item", x.read(0, n - 1), n == 0 ? NO : 5);
            due("no item more", x.item(0, n, 5), PLACE);
            due("no item more", x.read(0, n), NO);
            due("no item of another", x.read(1, 0), NO);
        }
        due("a bad sort first", new LongNoon().tape(0, 5, -1), BAD);
    }

    private static void sorts() {
        for (int sort : new int[] {MIN, -2, 5, 6, MAX}) {
            due("sort " + sort, new LongNoon().tape(0, sort, 3), BAD);
        }
        for (int sort = BYTES; sort <= BOOLEANS; sort++) {
            LongNoon x = new LongNoon();
            due("sort " + sort, x.tape(0, sort, 3), 1);
            for (int i = 0; i < 3; i++) {
                due("all 0", x.read(0, i), 0);
                due("1 fits all", x.item(0, i, 1), 1);
            }
            due("anew", x.tape(0, sort, 3), 1);
            for (int i = 0; i < 3; i++) {
                due("all 0", x.read(0, i), 0);
            }
        }
        for (int n : new int[] {MIN, -1, 0, 60, 61, MAX}) {
            LongNoon x = new LongNoon();
            x.tape(0, INTS, 3);
            due("nothing, n " + n, x.tape(0, -1, n), 1);
            due("nothing is there", x.read(0, 0), NO);
            due("nothing is there", x.item(0, 0, 1), NOTHING);
            due("nothing again", x.tape(0, -1, n), 1);
        }
    }

    private static void item(int sort, long v, long is) {
        LongNoon x = new LongNoon();
        x.tape(0, sort, 3);
        x.item(0, 0, 1);
        due("item", x.item(0, 1, v), 1);
        due(v + " in sort " + sort, x.read(0, 1), is);
        due("the one ahead", x.read(0, 0), 1);
        due("the one behind", x.read(0, 2), 0);
        due("into another place", x.shift(0, 1, 0, 2, 1), 1);
        due(v + " there", x.read(0, 2), is);
    }

    private static void bits() {
        int[] bits = {8, 16, 32, 64};
        for (int sort = BYTES; sort <= LONGS; sort++) {
            long most = Long.MAX_VALUE >> 64 - bits[sort];
            long least = -most - 1;
            item(sort, 0, 0);
            item(sort, -1, -1);
            item(sort, most - 1, most - 1);
            item(sort, most, most);
            item(sort, least, least);
            item(sort, least + 1, least + 1);
            item(sort, most + 1, least);
            item(sort, least - 1, most);
            item(sort, Long.MAX_VALUE, sort == LONGS ? Long.MAX_VALUE : -1);
            item(sort, Long.MIN_VALUE, sort == LONGS ? Long.MIN_VALUE : 0);
            if (sort < LONGS) {
                item(sort, 1L << bits[sort], 0);
                item(sort, (1L << bits[sort]) + 7, 7);
                item(sort, 7 - (1L << bits[sort]), 7);
            }
        }
    }

    private static void booleans() {
        item(BOOLEANS, 0, 0);
        for (long v : new long[] {1, -1, 2, -2, 256, 1L << 32, Long.MAX_VALUE, Long.MIN_VALUE}) {
            item(BOOLEANS, v, 1);
        }
    }

    private static void places() {
        for (int n : new int[] {1, 2, 60}) {
            LongNoon x = new LongNoon();
            x.tape(0, INTS, n);
            for (int i : new int[] {MIN, -1, n, n + 1, 60, 61, MAX}) {
                due("place " + i + " of " + n, x.item(0, i, 5), PLACE);
                due("nothing there", x.item(1, i, 5), NOTHING);
                due("no tape", x.item(6, i, 5), NONE);
            }
            for (int i : new int[] {0, n - 1}) {
                due("still 0", x.read(0, i), 0);
                due("place " + i + " of " + n, x.item(0, i, 5), 1);
                due("becomes it", x.read(0, i), 5);
                x.item(0, i, 0);
            }
        }
    }

    private static void read() {
        for (int n : new int[] {0, 1, 2, 60}) {
            LongNoon x = new LongNoon();
            x.tape(0, LONGS, 60);
            for (int i = 0; i < 60; i++) {
                x.item(0, i, 100 + i);
            }
            x.tape(1, LONGS, n);
            x.shift(0, 0, 1, 0, n);
            for (int i : new int[] {MIN, -1, n, n + 1, 60, MAX}) {
                due("place " + i + " of " + n, x.read(1, i), NO);
                due("nothing there", x.read(2, i), NO);
                due("no tape", x.read(6, i), NO);
                due("no tape", x.read(-1, i), NO);
            }
            for (int i = 0; i < n; i++) {
                due("place " + i, x.read(1, i), 100 + i);
            }
        }
        LongNoon x = new LongNoon();
        x.tape(0, LONGS, 1);
        x.item(0, 0, NO);
        due("an item like NO", x.read(0, 0), NO);
    }

    private static void shiftPlaces() {
        int[][] places = {{-1, 0, 1}, {0, -1, 1}, {0, 0, -1}, {0, 0, 4}, {2, 0, 4}, {3, 0, 3}, {0, 1, 3}, {4, 0, 2},
            {0, 2, 2}, {5, 0, 1}, {0, 3, 1}, {6, 0, 0}, {0, 4, 0}, {-1, 0, 0}, {0, -1, 0}, {-1, -1, -1}, {MIN, 0, 0},
            {0, MIN, 0}, {0, 0, MIN}, {MAX, 0, 1}, {0, MAX, 1}, {0, 0, MAX}, {1, 1, MAX}, {MAX, MAX, MAX},
            {MIN, MIN, MIN}, {MAX, 0, MAX}, {MIN, 0, MAX}, {5, 3, MAX}, {6, 0, -1}};
        for (int[] p : places) {
            LongNoon x = counted(INTS);
            due("from " + p[0] + " to " + p[1] + ", " + p[2], x.shift(0, p[0], 1, p[1], p[2]), PLACE);
            row(x, 0, 1, 2, 3, 4, 5);
            row(x, 1, 0, 0, 0);
        }
        int[][] fine = {{0, 0, 0}, {5, 3, 0}, {5, 0, 0}, {0, 3, 0}, {0, 0, 3}, {2, 0, 3}, {4, 2, 1}, {0, 2, 1}, {3, 1, 2}};
        for (int[] p : fine) {
            LongNoon x = counted(INTS);
            due("from " + p[0] + " to " + p[1] + ", " + p[2], x.shift(0, p[0], 1, p[1], p[2]), p[2]);
            row(x, 0, 1, 2, 3, 4, 5);
            for (int i = 0; i < 3; i++) {
                boolean came = i >= p[1] && i < p[1] + p[2];
                due("item " + i, x.read(1, i), came ? p[0] + i - p[1] + 1 : 0);
            }
        }
        LongNoon x = new LongNoon();
        x.tape(0, BYTES, 60);
        x.tape(1, BYTES, 0);
        due("none of a row of 0", x.shift(1, 0, 0, 60, 0), 0);
        due("none to a row of 0", x.shift(0, 60, 1, 0, 0), 0);
        due("one of a row of 0", x.shift(1, 0, 0, 0, 1), PLACE);
        due("one to a row of 0", x.shift(0, 0, 1, 0, 1), PLACE);
        due("all 60", x.shift(0, 0, 0, 0, 60), 60);
        due("61", x.shift(0, 0, 0, 0, 61), PLACE);
    }

    private static void shiftWithin() {
        LongNoon x = counted(LONGS);
        due("one on", x.shift(0, 0, 0, 1, 4), 4);
        row(x, 0, 1, 1, 2, 3, 4);
        x = counted(LONGS);
        due("one back", x.shift(0, 1, 0, 0, 4), 4);
        row(x, 0, 2, 3, 4, 5, 5);
        x = counted(LONGS);
        due("two on", x.shift(0, 0, 0, 2, 3), 3);
        row(x, 0, 1, 2, 1, 2, 3);
        x = counted(LONGS);
        due("two back", x.shift(0, 2, 0, 0, 3), 3);
        row(x, 0, 3, 4, 5, 4, 5);
        x = counted(LONGS);
        due("where they are", x.shift(0, 0, 0, 0, 5), 5);
        row(x, 0, 1, 2, 3, 4, 5);
        due("one too far on", x.shift(0, 0, 0, 1, 5), PLACE);
        due("one too far back", x.shift(0, 1, 0, 0, 5), PLACE);
        row(x, 0, 1, 2, 3, 4, 5);
    }

    private static void manyCalls() {
        LongNoon x = new LongNoon();
        x.house(HOUSE, 0, 50, 0);
        days(x, 509);
        due("call 511", x.told(0), 509);
        due("call 512", x.on(0, 0, 0), x.of(0, 2));
    }

    private static void shiftSorts() {
        for (int sort = BYTES; sort <= BOOLEANS; sort++) {
            for (int other = BYTES; other <= BOOLEANS; other++) {
                LongNoon x = new LongNoon();
                x.tape(0, sort, 2);
                x.tape(5, other, 2);
                x.item(0, 1, 1);
                due(sort + " to " + other, x.shift(0, 1, 5, 0, 1), sort == other ? 1 : CAST);
                due(sort + " to " + other, x.read(5, 0), sort == other ? 1 : 0);
                due("none, and no place", x.shift(0, 9, 5, 9, 0), sort == other ? PLACE : CAST);
            }
            LongNoon x = new LongNoon();
            x.tape(0, sort, 2);
            due("from nothing", x.shift(1, 0, 0, 0, 1), NOTHING);
            due("to nothing", x.shift(0, 0, 1, 0, 1), NOTHING);
            due("from nothing to nothing", x.shift(1, 0, 1, 0, 0), NOTHING);
            due("to no tape", x.shift(1, 0, 6, 0, 0), NONE);
            due("from no tape", x.shift(6, 0, 1, 0, 0), NONE);
        }
    }
}
