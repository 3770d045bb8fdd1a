/**
 * Each promise of DOC.md, with answers reckoned by hand from its words: ordinary calls, the edges that it
 * names, and wrong numbers.
 */
public final class PromisesTest extends Due {
    public static void main(String[] args) {
        Runnable[] promises = {
            PromisesTest::promise1, PromisesTest::promise2, PromisesTest::promise3, PromisesTest::promise4,
            PromisesTest::promise5, PromisesTest::promise6, PromisesTest::promise7, PromisesTest::promise8,
            PromisesTest::promise9, PromisesTest::promise10, PromisesTest::promise11, PromisesTest::promise12,
            PromisesTest::promise13, PromisesTest::promise14, PromisesTest::promise15, PromisesTest::promise16,
            PromisesTest::promise17, PromisesTest::promise18, PromisesTest::promise19, PromisesTest::promise20,
            PromisesTest::promise21, PromisesTest::promise22, PromisesTest::promise23, PromisesTest::promise24,
            PromisesTest::promise25, PromisesTest::promise26, PromisesTest::promise27, PromisesTest::promise28,
            PromisesTest::promise29, PromisesTest::promise30, PromisesTest::promise31, PromisesTest::promise32,
            PromisesTest::promise33, PromisesTest::promise34, PromisesTest::promise35, PromisesTest::promise36,
            PromisesTest::promise37
        };
        for (int n = 0; n < promises.length; n++) {
            says("promise " + (n + 1), promises[n]);
        }
        end();
    }

    private static void promise1() {
        LongNoon x = new LongNoon();
        for (int what = 0; what <= 5; what++) {
            due("count(" + what + ")", x.count(what), 0);
        }
        due("of(0, 0)", x.of(0, 0), -10001);
        due("told(0)", x.told(0), 0);
        due("told(3)", x.told(3), 20);
        due("told(4)", x.told(4), 80);
        due("never()", x.never(), 0);
        due("looked()", x.looked(), NEVER);
        due("undo()", x.undo(), STATE);
        for (int tape = 0; tape <= 5; tape++) {
            due("item(" + tape + ", 0, 1)", x.item(tape, 0, 1), NOTHING);
        }
        due("NONE", LongNoon.NONE, -1);
        due("BAD", LongNoon.BAD, -2);
        due("STATE", LongNoon.STATE, -3);
        due("FULL", LongNoon.FULL, -4);
        due("NO", LongNoon.NO, Long.MIN_VALUE);
    }

    private static void promise2() {
        LongNoon x = new LongNoon();
        due("kind below", x.house(-1, 0, 0, 0), NONE);
        due("kind above", x.house(7, 0, 0, 0), NONE);
        due("kind ahead of v", x.house(7, 10, 200, 100), NONE);
        due("v below", x.house(0, -1, 0, 0), BAD);
        due("v above", x.house(0, 10, 0, 0), BAD);
        due("heat below", x.house(0, 0, -1, 0), BAD);
        due("heat above", x.house(0, 0, 200, 0), BAD);
        due("cap below", x.house(0, 0, 0, -1), BAD);
        due("cap above", x.house(0, 0, 0, 100), BAD);
        due("no house yet", x.count(0), 0);
        due("least", x.house(0, 0, 0, 0), 0);
        due("most", x.house(6, 9, 199, 99), 1);
        for (int what = 0; what <= 5; what++) {
            due("of(0, " + what + ")", x.of(0, what), 0);
            due("of(1, " + what + ")", x.of(1, what), new int[] {6, 9, 199, 0, 99, 0}[what]);
        }
        for (int i = 2; i < 6; i++) {
            due("house " + i, x.house(i - 1, i, 10 * i, i), i);
        }
        due("a seventh", x.house(0, 0, 0, 0), FULL);
        due("none ahead of full", x.house(7, 0, 0, 0), NONE);
        due("bad ahead of full", x.house(0, 0, 0, 100), BAD);
        due("six stay", x.count(0), 6);
    }

    private static void promise3() {
        LongNoon x = new LongNoon();
        for (int kind = 0; kind < 6; kind++) {
            x.house(kind, 3, 50, 7);
        }
        int[] inLight = {10, 20, 10, 5, 23, 5};
        int[] inDark = {-10, -10, -10, -10, -7, -5};
        for (int kind = 0; kind < 6; kind++) {
            int room = kind == 2 || kind == 5 ? 10 : 7;
            int[] all = {kind, 3, 50, 0, 7, 0, room, 10, 0, inLight[kind]};
            for (int what = 0; what < all.length; what++) {
                due("of(" + kind + ", " + what + ")", x.of(kind, what), all[what]);
            }
        }
        due("of(6, 0)", x.of(6, 0), -10001);
        due("of(-1, 0)", x.of(-1, 0), -10001);
        due("of(0, 10)", x.of(0, 10), -10001);
        due("of(0, -1)", x.of(0, -1), -10001);
        due("of(MIN, MAX)", x.of(MIN, MAX), -10001);
        days(x, 14);
        for (int kind = 0; kind < 6; kind++) {
            due("sun in dark", x.of(kind, 7), 0);
            due("cold in dark", x.of(kind, 8), 10);
            due("gain in dark", x.of(kind, 9), inDark[kind]);
        }
        x = on("sun 7 h<9;cold 7 h<9;cold 8 k=0");
        x.house(3, 0, 50, 0);
        x.house(5, 0, 50, 0);
        x.house(6, 0, 50, 0);
        x.house(0, 0, 50, 0);
        due("half of 7, cut", x.of(0, 9), 3);
        due("half of 7, cut", x.of(1, 9), 3);
        for (int part = 0; part < 4; part++) {
            x.row(2, part, 2 * part);
        }
        int[] told = {3 + 0 - 4, 3 + 2 - 4, 3 + 4 - 4, 3 + 6 - 4};
        for (int day = 0; day < 14; day++) {
            due("gain of a told one", x.of(2, 9), told[day % 4]);
            x.day();
        }
        due("half of -7, cut toward 0", x.of(1, 9), -3);
        due("cold of one", x.of(2, 8), 7);
        due("cold of two clauses", x.of(3, 8), 15);
        due("a told one in the dark", x.of(2, 9), -7 + 4 - 4);
    }

    private static void promise4() {
        LongNoon x = new LongNoon();
        x.house(0, 5, 50, 40);
        x.house(2, 5, 50, 40);
        x.house(5, 9, 50, 99);
        due("heat", x.set(0, 0, 199), 50);
        due("heat again", x.set(0, 0, 0), 199);
        due("heat is", x.of(0, 2), 0);
        due("store", x.set(0, 1, 40), 0);
        due("store is", x.of(0, 3), 40);
        due("store again", x.set(0, 1, 0), 40);
        due("store above room", x.set(0, 1, 41), BAD);
        due("store of sand", x.set(1, 1, 45), 0);
        due("store of sand above", x.set(1, 1, 46), BAD);
        due("store of the deep", x.set(2, 1, 108), 0);
        due("store of the deep above", x.set(2, 1, 109), BAD);
        due("leak", x.set(0, 2, 9), 0);
        due("leak again", x.set(0, 2, 3), 9);
        due("leak is", x.of(0, 5), 3);
        due("leak above", x.set(0, 2, 10), BAD);
        for (int what = 0; what < 3; what++) {
            due("below", x.set(0, what, -1), BAD);
            due("far above", x.set(0, what, MAX), BAD);
            due("no house", x.set(3, what, 0), NONE);
            due("no house", x.set(-1, what, 0), NONE);
        }
        due("heat above", x.set(0, 0, 200), BAD);
        due("what above", x.set(0, 3, 0), NONE);
        due("what below", x.set(0, -1, 0), NONE);
        due("none ahead of bad", x.set(3, 0, -1), NONE);
        due("what was bad changed nothing", x.of(0, 2), 0);
        due("what was bad changed nothing", x.of(1, 3), 45);
    }

    private static void promise5() {
        LongNoon x = new LongNoon();
        x.house(6, 0, 50, 40);
        x.house(3, 0, 50, 40);
        for (int part = 0; part < 4; part++) {
            due("at first", x.row(0, part, part + 5), 4);
            due("then", x.row(0, part, 9 * (part & 1)), part + 5);
        }
        due("part above", x.row(0, 4, 0), NONE);
        due("part below", x.row(0, -1, 0), NONE);
        due("no house", x.row(2, 0, 0), NONE);
        due("no house", x.row(-1, 0, 0), NONE);
        due("n above", x.row(0, 0, 10), BAD);
        due("n below", x.row(0, 0, -1), BAD);
        due("another kind", x.row(1, 0, 0), STATE);
        due("bad ahead of state", x.row(1, 0, 10), BAD);
        due("none ahead of bad", x.row(1, 4, 10), NONE);
        due("by moon 0", x.of(0, 9), 5 + 0 - 4);
        x.day();
        due("by moon 1", x.of(0, 9), 5 + 9 - 4);
    }

    private static void promise6() {
        LongNoon x = new LongNoon();
        due("below", x.feed(-1), BAD);
        due("above", x.feed(128), BAD);
        for (int i = 1; i <= 100; i++) {
            due("feed " + i, x.feed(i == 1 ? 0 : i == 2 ? 127 : i), i);
        }
        due("a sign more", x.feed(1), FULL);
        due("bad ahead of full", x.feed(128), BAD);
        due("bytes", x.count(4), 100);
        due("the first is no clause's", x.ground(), -10);
        due("empty then", x.feed('a'), 1);
    }

    /** Whether the test holds of house 1 (GLASS, v 7, HEAT 39, its STORE holds 25) on moon 0: by its sun. */
    private static void holds(String rule, boolean want) {
        LongNoon x = on("sun 5 " + rule);
        x.house(0, 0, 0, 0);
        x.house(1, 7, 39, 30);
        x.set(1, 1, 25);
        due("sun by " + rule, x.of(1, 7), want ? 5 : 0);
    }

    private static void promise7() {
        fault("", 0);
        fault("x", 0);
        fault("sun", 3);
        fault("sun ", 4);
        fault("sun  1 h=1", 4);
        fault("sun x h=1", 4);
        fault("sun 1", 5);
        fault("sun 1 ", 6);
        fault("sun 12;", 6);
        fault("sun 123 h=1", 6);
        fault("sun 1 x=1", 6);
        fault("sun 1 h", 7);
        fault("sun 1 h!1", 7);
        fault("sun 1 h=", 8);
        fault("sun 1 h=x", 8);
        fault("sun 1 h=123", 10);
        fault("sun 1 h=1|", 10);
        fault("sun 1 h=1&", 10);
        fault("sun 1 h=1||h=2", 10);
        fault("sun 1 h=1 ", 9);
        fault("sun 1 h=1)", 9);
        fault("sun 1 (h=1", 10);
        fault("sun 1 (h=1;low 3", 10);
        fault("sun 1 ()", 7);
        fault("sun 1 !", 7);
        fault("sun 1 ((((h=1)))", 16);
        fault("sun 1 (((((h=1)))))", 10);
        fault("sun 1 !!!!!h=1", 10);
        fault("sun 1 !(!(!h=1))", 10);
        fault("cold 1 h=1|((((!h=1))))", 15);
        fault("Sun 1 h=1", 0);
        fault("sux 1 h=1", 2);
        fault("cald 1 h=1", 1);
        fault("low1", 3);
        fault("low x", 4);
        fault("low 1 h=1", 5);
        fault("low 123", 6);
        fault("low 1;", 6);
        fault("low 1;;", 6);
        fault("low 1;x", 6);
        fault("high", 4);
        fault("hi 5", 2);
        fault("low 1\0", 5);
        fault("\0", 0);
        fault(" low 1", 0);
        fault("low 1;low 1;low 1;low 1;low 1;low 1;low 1;low 1;low 1;low 1;low 1", 59);
        fine("low 1;low 1;low 1;low 1;low 1;low 1;low 1;low 1;low 1;low 1");
        fine("sun 00 h=00;cold 99 s>99;low 0;high 07");
        fine("sun 1 ((((h=1))))&!!!!h=1|(h=2)|!(!(h=3&k<4|m>5))");
        fine("sun 1 ((((h=1))));cold 1 !(!(h=2))|(!(!h=2))");

        holds("h=1", true);
        holds("h=0", false);
        holds("h<1", false);
        holds("h<2", true);
        holds("h>1", false);
        holds("h>0", true);
        holds("k=1", true);
        holds("v=7", true);
        holds("m=0", true);
        holds("e=3", true);
        holds("e>3", false);
        holds("s=2", true);
        holds("s<2", false);
        holds("!h=1", false);
        holds("!!h=1", true);
        holds("k=1|k=2&k=3", true);
        holds("(k=1|k=2)&k=3", false);
        holds("k=3&k=2|k=1", true);
        holds("k=3&(k=2|k=1)", false);
        holds("k=1&v=7&e=3&s=3", false);
        holds("k=1&v=7&e=3&s=2", true);
        holds("k=2|v=8|e=4|s=2", true);
        holds("k=2|v=8|e=4|s=3", false);
        holds("!k=1|v=7", true);
        holds("!k=1&v=7", false);
        holds("!(k=1|v=6)|v=7&!e=4", true);
        holds("!(k=1&v=7)|(s=2&!e=3)", false);

        LongNoon tens = on("sun 1 e=4;sun 2 e=3;sun 4 e=19;sun 8 s=1;sun 16 s=0;sun 32 s=10");
        tens.house(5, 9, 39, 99);
        int[][] byTens = {{39, 9, 18}, {40, 10, 9}, {199, 0, 20}, {0, 19, 8}, {49, 108, 33}};
        for (int[] by : byTens) {
            tens.set(0, 0, by[0]);
            tens.set(0, 1, by[1]);
            due("e of " + by[0] + ", s of " + by[1], tens.of(0, 7), by[2]);
        }

        LongNoon x = new LongNoon();
        due("low 1", ground(x, "low 1"), 0);
        due("low x", ground(x, "low x"), -14);
        due("the one that held holds", x.told(3), 1);
        due("one is", x.count(1), 1);
        due("empty then", x.count(4), 0);
        for (int i = 1; i < 6; i++) {
            due("low", ground(x, "low 2" + i), i);
            due("the newest holds", x.told(3), 20 + i);
            due("and it alone", x.told(4), 80);
        }
        due("a seventh", ground(x, "low 3"), FULL);
        due("the text stays", x.count(4), 5);
        due("full ahead of a fault", ground(x, "x"), FULL);
        due("the text stays", x.count(4), 6);
        due("the sixth holds", x.told(3), 25);
    }

    private static void promise8() {
        LongNoon x = new LongNoon();
        for (int day = 0; day < 60; day++) {
            due("day", x.told(0), day);
            due("moon", x.told(1), day < 28 ? day : day < 56 ? day - 28 : day - 56);
            due("light", x.told(2), day < 14 || day >= 28 && day < 42 || day >= 56 ? 1 : 0);
            x.day();
        }
        due("below", x.told(-1), NONE);
        due("above", x.told(5), NONE);
        due("far above", x.told(MAX), NONE);
        x = on("low 3;high 90;low 5;high 70");
        due("the last low", x.told(3), 5);
        due("the last high", x.told(4), 70);
        ground(x, "high 60");
        due("low without", x.told(3), 20);
        due("high", x.told(4), 60);
    }

    private static void promise9() {
        LongNoon x = new LongNoon();
        due("a day without houses", x.day(), 0);
        x = new LongNoon();
        x.house(0, 0, 50, 40);
        x.house(3, 0, 80, 3);
        x.house(0, 0, 0, 0);
        int[] heat = {60, 70, 80, 80, 80, 80, 80, 90, 100, 110, 120, 130, 140, 150,
            140, 130, 120, 110, 100, 90, 80, 70, 60, 50, 40, 30, 20, 20, 30};
        int[] store = {0, 0, 0, 10, 20, 30, 40, 40, 40, 40, 40, 40, 40, 40,
            40, 40, 40, 40, 40, 40, 40, 40, 40, 40, 40, 40, 40, 30, 30};
        for (int d = 0; d < heat.length; d++) {
            int amiss = x.day();
            due("the first is amiss", amiss & 1, heat[d] > 80 || heat[d] < 20 ? 1 : 0);
            due("heat", x.of(0, 2), heat[d]);
            due("store", x.of(0, 3), store[d]);
            if (d == 0) {
                due("the second and third are amiss", amiss, 6);
                due("as much as there is room for", x.of(1, 2), 82);
                due("as much as there is room for", x.of(1, 3), 3);
                due("too cold", x.of(2, 2), 10);
            }
        }
        x = on("sun 99 h<9;sun 99 h<9;cold 99 h<9");
        x.house(1, 0, 0, 0);
        due("199 is the bound", x.day(), 1);
        due("199 is the bound", x.of(0, 2), 199);
        days(x, 13);
        x.set(0, 0, 50);
        due("0 is the bound", x.day(), 1);
        due("0 is the bound", x.of(0, 2), 0);
        x = on("sun 10 s=3;sun 20 s=2;low 40;high 60");
        x.house(0, 0, 40, 99);
        x.set(0, 1, 35);
        x.set(0, 2, 9);
        x.day();
        due("the gain is by what was ahead of the day", x.of(0, 2), 50);
        due("the leak", x.of(0, 3), 26);
        x.day();
        x.day();
        due("what is above goes to what has leaked", x.of(0, 3), 26 - 9 + 10 - 9 + 20);
        due("and leaves high", x.of(0, 2), 60);
        x = on("sun 0 h<9;low 50;high 30");
        x.house(0, 0, 40, 99);
        x.house(0, 0, 10, 99);
        x.set(1, 1, 99);
        due("low above high", x.day(), 3);
        due("gives until high, and is below low", x.of(0, 2), 30);
        due("takes until low, and is above high", x.of(1, 2), 50);
        x.set(1, 0, 30);
        x.day();
        due("at high, and below low", x.of(1, 2), 50);
        x = new LongNoon();
        days(x, 9999);
        due("day 9999", x.told(0), 9999);
        x.house(0, 0, 50, 0);
        due("no day more", x.day(), STATE);
        due("nothing changed", x.of(0, 2), 50);
        due("still", x.told(0), 9999);
        due("days beyond are asked", x.on(0, 3, 0), 80);
        due("days beyond are asked", x.on(0, 12, 0), 150);
    }

    private static void promise10() {
        LongNoon x = new LongNoon();
        x.house(0, 0, 50, 40);
        due("heat now", x.on(0, 0, 0), 50);
        due("store now", x.on(0, 0, 1), 0);
        due("none amiss", x.on(0, 0, 2), 0);
        due("heat", x.on(0, 8, 0), 90);
        due("store", x.on(0, 6, 1), 30);
        due("amiss", x.on(0, 7, 2), 0);
        due("amiss", x.on(0, 8, 2), 1);
        due("amiss", x.on(0, 28, 2), 13);
        due("amiss", x.on(0, 56, 2), 26);
        due("amiss", x.on(0, 60, 2), 26);
        due("heat in 60", x.on(0, 60, 0), 60);
        due("asked changes nothing", x.of(0, 2), 50);
        due("asked changes nothing", x.told(0), 0);
        due("n below", x.on(0, -1, 0), BAD);
        due("n above", x.on(0, 61, 0), BAD);
        due("what below", x.on(0, 1, -1), NONE);
        due("what above", x.on(0, 1, 3), NONE);
        due("no house", x.on(1, 1, 0), NONE);
        due("none ahead of bad", x.on(1, 61, 0), NONE);
        due("none ahead of bad", x.on(0, 61, 3), NONE);
        days(x, 7);
        due("from now on", x.on(0, 1, 0), 90);
    }

    private static void promise11() {
        LongNoon x = new LongNoon();
        x.house(0, 0, 50, 40);
        x.house(0, 0, 30, 90);
        x.house(0, 0, 199, 0);
        due("the eighth", x.first(0), 8);
        due("never", x.first(1), NEVER);
        due("at once", x.first(2), 1);
        due("no house", x.first(3), NONE);
        due("no house", x.first(-1), NONE);
        days(x, 3);
        due("from now on", x.first(0), 5);
        LongNoon late = on("sun 0 h<9;cold 0 h<9;sun 9 m=0;low 0;high 50");
        late.house(0, 0, 40, 0);
        late.day();
        late.set(0, 0, 42);
        due("day 29 from 0 is 28 from now", late.first(0), 28);
        late = on("sun 0 h<9;cold 0 h<9;sun 5 m=0;low 0;high 50");
        late.house(0, 0, 40, 0);
        late.day();
        late.set(0, 0, 41);
        due("day 57 from 0 is 56 from now", late.first(0), 56);
        late.set(0, 0, 40);
        due("not beyond 56", late.first(0), NEVER);
    }

    private static void promise12() {
        LongNoon x = new LongNoon();
        x.house(0, 0, 30, 90);
        x.house(0, 0, 30, 89);
        x.house(0, 0, 30, 91);
        due("bits", x.never(), 5);
        x.set(2, 2, 9);
        due("bits", x.never(), 1);
        LongNoon late = on("sun 0 h<9;cold 0 h<9;sun 5 m=0;low 0;high 50");
        late.house(0, 0, 36, 0);
        late.house(0, 0, 35, 0);
        late.day();
        due("1 to 56 alone", late.never(), 2);
    }

    private static void promise13() {
        LongNoon x = new LongNoon();
        x.house(0, 0, 30, 0);
        x.house(2, 9, 30, 0);
        x.house(0, 0, 50, 99);
        x.house(0, 0, 40, 0);
        due("the least", x.cap(0), 90);
        due("sand has v more", x.cap(1), 81);
        due("by none", x.cap(2), NEVER);
        due("100 is no cap", x.cap(3), NEVER);
        x.set(3, 0, 39);
        due("99 is one", x.cap(3), 99);
        due("its own stays", x.of(0, 4), 0);
        due("no house", x.cap(4), NONE);
        due("no house", x.cap(-1), NONE);
        LongNoon dark = new LongNoon();
        days(dark, 14);
        dark.house(0, 0, 80, 99);
        due("nothing is stored", dark.cap(0), NEVER);
        dark.set(0, 1, 90);
        due("what is above is gone", dark.cap(0), 80);
        due("but asked alone", dark.of(0, 3), 90);
        LongNoon still = on(STILL);
        still.house(0, 0, 40, 99);
        due("0 will do", still.cap(0), 0);
    }

    private static void promise14() {
        LongNoon x = new LongNoon();
        days(x, 14);
        x.house(0, 0, 80, 99);
        x.house(0, 0, 80, 79);
        x.house(2, 1, 80, 79);
        due("the least", x.full(0), 80);
        due("more than its room", x.full(1), NEVER);
        due("its room", x.full(2), 80);
        x.set(0, 1, 99);
        due("what it holds does not matter", x.full(0), 80);
        due("what it holds stays", x.of(0, 3), 99);
        due("no house", x.full(3), NONE);
        due("no house", x.full(-1), NONE);
        LongNoon still = on(STILL);
        still.house(0, 0, 40, 0);
        still.house(0, 0, 51, 0);
        due("nothing will do", still.full(0), 0);
        due("none will do", still.full(1), NEVER);
    }

    private static void promise15() {
        LongNoon x = on(STILL);
        x.house(0, 0, 199, 0);
        due("the least of several", x.heat(0, 0), 30);
        due("on none", x.heat(0, 1), 0);
        due("its own stays", x.of(0, 2), 199);
        ground(x, "sun 0 h<9;cold 0 h<9;low 35;high 38");
        due("each is amiss", x.heat(0, 0), 0);
        due("on all", x.heat(0, 1), 56);
        LongNoon y = on("sun 0 h<9;cold 0 h<9;low 35;high 38");
        y.house(0, 0, 0, 99);
        due("by its store", y.heat(0, 0), 40);
        due("on none", y.heat(0, 1), 0);
        LongNoon z = on("sun 1 m<9;cold 0 h<9;low 99;high 99");
        z.house(0, 0, 0, 0);
        due("fine on days 9 to 28", z.heat(0, 0), 90);
        due("amiss on all others", z.heat(0, 1), 36);
        LongNoon most = on("sun 0 h<9;cold 0 h<9;low 0;high 99");
        most.house(0, 0, 0, 91);
        ground(most, "sun 0 h<9;cold 0 h<9;low 99;high 99");
        due("190 is one: 91 above", most.heat(0, 0), 100);
        ground(most, "sun 0 h<9;cold 9 m=14;cold 0 h<9;low 99;high 99");
        most.set(0, 2, 2);
        due("it leaks until the cold", most.heat(0, 0), 140);
        due("and until the next", most.heat(0, 1), 14);
        LongNoon dark = on("sun 0 h<9;cold 13 m<21;cold 0 h<9;low 99;high 99");
        days(dark, 14);
        dark.house(0, 0, 0, 0);
        due("only 190 comes to 99", dark.heat(0, 0), 190);
        due("fine on days 7 to 28", dark.heat(0, 1), 34);
        due("what below", y.heat(0, -1), NONE);
        due("what above", y.heat(0, 2), NONE);
        due("no house", y.heat(1, 0), NONE);
        due("no house", y.heat(-1, 0), NONE);
        LongNoon top = on("sun 0 h<9;cold 1 h<9;cold 99 m=27;low 0;high 0");
        top.house(0, 0, 0, 0);
        due("0 is one", top.heat(0, 0), 0);
    }

    private static void promise16() {
        LongNoon x = new LongNoon();
        due("no houses", x.big(0), 0);
        due("no houses", x.big(1), 0);
        x = on(STILL);
        x.house(0, 0, 60, 5);
        x.house(0, 0, 25, 5);
        due("the first gives, the second takes", x.big(0), 0);
        due("what is left", x.big(1), 5);
        x.set(0, 2, 2);
        x.set(1, 2, 1);
        due("leaks together", x.big(1), 0);
        due("asked changes nothing", x.of(0, 2), 60);
        due("what below", x.big(-1), NONE);
        due("what above", x.big(2), NONE);
        x = on(STILL);
        x.house(0, 0, 25, 5);
        x.house(2, 1, 60, 5);
        due("by numbers: one day late", x.big(0), 1);
        due("what is left", x.big(1), 5);
        x.set(0, 1, 5);
        due("stored by one for the other", x.big(0), 0);
        x.set(1, 0, 62);
        x.set(0, 0, 30);
        due("room for 11, of which 5 are taken", x.big(0), 28);
        due("it is full", x.big(1), 11);
        x = on("sun 0 h<9;sun 2 s=1;cold 0 h<9;low 30;high 50");
        x.house(0, 0, 40, 20);
        x.house(0, 0, 40, 20);
        x.set(0, 1, 5);
        x.set(1, 1, 6);
        x.set(0, 2, 9);
        due("s by what all hold ahead of the day", x.big(0), 0);
        due("it is empty", x.big(1), 0);
        x.set(0, 0, 49);
        due("one day of 2: 1 is above", x.big(1), 0);
        x.set(0, 2, 0);
        due("14 days of 2, until s is no more 1", x.big(1), 20);
        ground(x, "sun 3 m<2;cold 0 h<9;low 0;high 50");
        x.set(0, 0, 50);
        x.set(1, 0, 50);
        due("from now on", x.big(1), 11 + 12);
        x.day();
        due("from now on", x.big(1), 17 + 6 + 6);
    }

    private static void promise17() {
        LongNoon x = on(STILL);
        x.house(0, 0, 30, 10);
        x.house(0, 0, 20, 10);
        x.set(0, 1, 10);
        due("ten help", x.gives(0, 1, 10), 56);
        due("nine do not", x.gives(0, 1, 9), 0);
        due("no more than it holds", x.gives(0, 1, 99), 56);
        due("none", x.gives(0, 1, 0), 0);
        due("asked changes nothing", x.of(0, 3), 10);
        due("asked changes nothing", x.of(1, 3), 0);
        due("it holds nothing", x.gives(1, 0, 50), 0);
        x.set(0, 0, 20);
        due("one gains, one loses", x.gives(0, 1, 10), 0);
        x.set(1, 0, 40);
        due("below 0", x.gives(0, 1, 10), -56);
        due("below 0", x.gives(0, 1, 1), -56);
        x.set(1, 1, 10);
        due("no room", x.gives(0, 1, 10), 0);
        due("no house", x.gives(2, 0, 0), -1001);
        due("no house", x.gives(0, 2, 0), -1001);
        due("no house", x.gives(-1, -1, 100), -1001);
        due("one house", x.gives(1, 1, 0), -1002);
        due("n below", x.gives(0, 1, -1), -1002);
        due("n above", x.gives(0, 1, 100), -1002);
    }

    private static void promise18() {
        LongNoon x = on("sun 20 m=7;cold 0 h<9;low 20;high 50");
        x.house(0, 0, 40, 0);
        due("the first of five that end with it", x.turn(0, 0), 4);
        due("the next moon's it can't", x.turn(0, 1), 21);
        due("asked changes nothing", x.of(0, 2), 40);
        ground(x, "sun 20 m=3;cold 0 h<9;low 20;high 50");
        due("not below 1", x.turn(0, 0), 1);
        due("on how many", x.turn(0, 1), 25);
        ground(x, STILL);
        due("the least of several", x.turn(0, 0), 1);
        due("on none", x.turn(0, 1), 0);
        ground(x, "sun 20 m=2;cold 0 h<9;low 20;high 50");
        days(x, 5);
        x.set(0, 0, 40);
        due("from now on", x.turn(0, 0), 22);
        due("on how many", x.turn(0, 1), 3);
        due("what below", x.turn(0, -1), NONE);
        due("what above", x.turn(0, 2), NONE);
        due("no house", x.turn(1, 0), NONE);
        due("no house", x.turn(-1, 0), NONE);
        LongNoon y = on("sun 20 m=3|m=5;cold 0 h<9;low 20;high 50");
        y.house(0, 0, 40, 0);
        days(y, 8);
        y.set(0, 0, 40);
        due("both days 24 and 26", y.turn(0, 0), 22);
        due("from day 52 on", y.turn(0, 1), 5);
        LongNoon z = on("sun 20 m=4;cold 0 h<9;low 20;high 50");
        z.house(0, 0, 40, 0);
        days(z, 5);
        z.set(0, 0, 40);
        due("day 28", z.turn(0, 0), 24);
        due("and day 56", z.turn(0, 1), 1);
        z = on("sun 15 m=4|m=8;cold 0 h<9;low 0;high 50");
        z.house(0, 0, 0, 0);
        days(z, 5);
        z.set(0, 0, 10);
        due("28 is one: days 28 and 32", z.turn(0, 0), 28);
        due("none is left", z.turn(0, 1), 0);
        LongNoon late = on("sun 15 m=0|m=4;cold 0 h<9;low 20;high 50");
        late.house(0, 0, 10, 0);
        due("29 is none: days 29 and 33", late.turn(0, 0), 2);
        due("on how many", late.turn(0, 1), 24);
        late.set(0, 0, 199);
        due("amiss all the same", late.turn(0, 0), 1);
        due("on all", late.turn(0, 1), 56);
        LongNoon oven = on("sun 30 m<5;cold 0 h<9;low 0;high 59");
        oven.house(4, 1, 0, 0);
        due("without sun v comes all the same", oven.turn(0, 0), 1);
        due("1 a day, and 60 on day 29", oven.turn(0, 1), 28);
    }

    private static void promise19() {
        LongNoon x = on("sun 20 m=7;cold 0 h<9;low 20;high 50");
        x.house(0, 0, 40, 0);
        x.house(0, 0, 10, 0);
        x.house(0, 0, 30, 0);
        x.house(0, 0, 31, 0);
        due("one until day 7, the other from day 8", x.alike(0, 1), 0);
        due("both fine for 7 days", x.alike(0, 2), 7);
        due("the other way round", x.alike(2, 0), 7);
        due("alike", x.alike(0, 3), 28);
        due("one house", x.alike(0, 0), BAD);
        due("no house", x.alike(0, 4), NONE);
        due("no house", x.alike(4, 0), NONE);
        due("none ahead of bad", x.alike(-1, -1), NONE);
        ground(x, "sun 11 m=7&h=0;cold 0 h<9;low 20;high 50");
        due("51 from day 8", x.alike(0, 1), 21);
        due("51 from day 8", x.alike(1, 0), 21);
        ground(x, "sun 20 m=7;cold 0 h<9;low 20;high 50");
        x.day();
        due("from now on", x.alike(0, 2), 6);
        due("asked changes nothing", x.told(0), 1);
    }

    private static void promise20() {
        LongNoon x = on(STILL);
        due("no house", x.see(0, 0, 0), NONE);
        x.house(0, 0, 40, 99);
        due("first", x.see(0, 0, 0), 1);
        due("edges", x.see(0, 30, 199), 2);
        due("n below", x.see(0, -1, 0), BAD);
        due("n above", x.see(0, 31, 0), BAD);
        due("holds below", x.see(0, 0, -1), BAD);
        due("holds above", x.see(0, 0, 200), BAD);
        due("no house", x.see(1, 31, 200), NONE);
        due("no house", x.see(-2, 0, 0), NONE);
        for (int i = 3; i <= 8; i++) {
            due("see", x.see(0, i, i), i);
        }
        due("a ninth", x.see(0, 0, 0), FULL);
        due("bad ahead of full", x.see(0, 31, 0), BAD);
        due("eight", x.count(2), 8);
        due("none then", x.see(-1, MAX, MIN), 0);
        due("none", x.count(2), 0);
        due("anew", x.see(0, 1, 1), 1);
    }

    private static void promise21() {
        LongNoon x = on(STILL);
        x.house(0, 0, 40, 99);
        x.house(0, 0, 40, 99);
        x.set(0, 1, 30);
        x.set(0, 2, 9);
        due("nothing seen", x.leaks(0), 1023);
        x.see(0, 0, 30);
        due("now", x.leaks(0), 1023);
        x.see(0, 10, 0);
        due("3 and above", x.leaks(0), 1023 - 7);
        x.see(0, 4, 10);
        due("5", x.leaks(0), 1 << 5);
        x.see(0, 5, 6);
        due("none", x.leaks(0), 0);
        due("of another one nothing is seen", x.leaks(1), 1023);
        x.see(-1, 0, 0);
        x.see(0, 30, 0);
        due("1 and above", x.leaks(0), 1022);
        x.see(0, 3, 30);
        due("0 alone, but not so", x.leaks(0), 0);
        x.see(-1, 0, 0);
        x.see(1, 2, 0);
        x.see(0, 2, 12);
        due("9", x.leaks(0), 512);
        x.see(0, 2, 13);
        due("two at once", x.leaks(0), 0);
        due("its own stays", x.of(0, 5), 9);
        x.see(-1, 0, 0);
        x.see(0, 0, 29);
        due("not so now", x.leaks(0), 0);
        due("no house", x.leaks(2), NONE);
        due("no house", x.leaks(-1), NONE);
        LongNoon y = on(STILL);
        y.house(0, 0, 40, 99);
        y.set(0, 1, 30);
        y.see(0, 2, 24);
        y.day();
        due("from the now of the asking", y.leaks(0), 1 << 3);
        y = on("sun 5 m=3;cold 0 h<9;low 20;high 20");
        y.house(0, 0, 20, 99);
        y.set(0, 1, 7);
        y.see(0, 4, 5);
        y.see(0, 5, 3);
        due("filled again on day 4", y.leaks(0), 1 << 2);
    }

    private static void promise22() {
        LongNoon x = on(STILL);
        x.house(0, 0, 40, 99);
        due("at once", x.dry(0), 1);
        x.set(0, 1, 30);
        due("never", x.dry(0), NEVER);
        x.set(0, 2, 7);
        due("the fifth", x.dry(0), 5);
        x.set(0, 1, 60);
        x.set(0, 2, 1);
        due("the last", x.dry(0), 60);
        x.set(0, 1, 61);
        due("too late", x.dry(0), NEVER);
        due("asked changes nothing", x.of(0, 3), 61);
        x.day();
        due("from now on", x.dry(0), 60);
        LongNoon y = on("sun 5 m=3;cold 0 h<9;low 20;high 20");
        y.house(0, 0, 20, 99);
        y.set(0, 1, 7);
        y.set(0, 2, 2);
        due("filled again on day 4", y.dry(0), 7);
        y.day();
        due("from now on", y.dry(0), 6);
        due("no house", x.dry(1), NONE);
        due("no house", x.dry(-1), NONE);
    }

    private static void odds(LongNoon x, int house, int above, int below) {
        due("above the line", x.odds(house, 0), above);
        due("below the line", x.odds(house, 1), below);
    }

    private static void promise23() {
        LongNoon x = new LongNoon();
        x.house(0, 0, 75, 0);
        x.house(1, 0, 75, 0);
        x.house(0, 0, 199, 0);
        x.house(0, 0, 50, 0);
        x.house(0, 0, 75, 2);
        x.house(0, 0, 10, 0);
        odds(x, 0, 1, 2);
        odds(x, 1, 4, 5);
        odds(x, 2, 1, 1);
        odds(x, 3, 0, 1);
        odds(x, 4, 3, 10);
        odds(x, 5, 9, 10);
        x.set(5, 0, 18);
        odds(x, 5, 1, 10);
        x.set(5, 0, 14);
        odds(x, 5, 1, 2);
        due("asked changes nothing", x.of(0, 2), 75);
        due("part below", x.odds(0, -1), NO);
        due("part above", x.odds(0, 2), NO);
        due("no house", x.odds(6, 0), NO);
        due("no house", x.odds(-1, 0), NO);
        LongNoon y = on("sun 3 h<9");
        y.house(0, 0, 79, 0);
        odds(y, 0, 1, 5);
        y.set(0, 0, 81);
        odds(y, 0, 1, 1);
        days(y, 14);
        y.set(0, 0, 91);
        odds(y, 0, 1, 1);
        y.set(0, 0, 90);
        odds(y, 0, 0, 1);
    }

    private static void mean(LongNoon x, int n, int above, int below) {
        due("above the line, " + n, x.mean(n, 0), above);
        due("below the line, " + n, x.mean(n, 1), below);
    }

    private static void promise24() {
        LongNoon x = new LongNoon();
        due("no houses", x.mean(1, 0), NO);
        x.house(0, 0, 50, 40);
        mean(x, 1, 60, 1);
        mean(x, 2, 65, 1);
        mean(x, 3, 70, 1);
        mean(x, 4, 145, 2);
        x.house(3, 0, 50, 0);
        mean(x, 1, 115, 2);
        mean(x, 2, 245, 4);
        due("asked changes nothing", x.of(0, 2), 50);
        due("n below", x.mean(0, 0), NO);
        due("n above", x.mean(61, 0), NO);
        due("part below", x.mean(1, -1), NO);
        due("part above", x.mean(1, 2), NO);
        x = new LongNoon();
        x.house(0, 0, 50, 40);
        days(x, 13);
        x.set(0, 0, 50);
        mean(x, 2, 55, 1);
        LongNoon still = on(STILL);
        still.house(0, 0, 0, 0);
        mean(still, 60, 0, 1);
        still.house(0, 0, 37, 0);
        still.house(0, 0, 40, 0);
        mean(still, 60, 77, 3);
    }

    private static void promise25() {
        LongNoon x = new LongNoon();
        due("no house", x.book(0), NONE);
        due("empty", x.book(-1), 0);
        x.house(0, 0, 50, 0);
        for (int i = 1; i <= 12; i++) {
            due("book " + i, x.book(0), i);
        }
        due("a thirteenth", x.book(0), FULL);
        due("none ahead of full", x.book(1), NONE);
        due("no house", x.book(-2), NONE);
        due("twelve", x.count(3), 12);
        due("empty then", x.book(-1), 0);
        due("none", x.count(3), 0);
        due("anew", x.book(0), 1);
    }

    private static void promise26() {
        LongNoon x = on("sun 20 m=2;cold 0 h<9;low 20;high 50");
        due("nothing in it", x.looked(), NEVER);
        x.house(0, 0, 40, 0);
        x.house(0, 0, 10, 0);
        x.house(0, 0, 30, 0);
        x.book(1);
        due("amiss on day 1", x.looked(), NEVER);
        x.book(1);
        due("amiss on day 2", x.looked(), NEVER);
        x.book(0);
        due("amiss on day 3", x.looked(), NEVER);
        x.book(1);
        due("no more on day 4", x.looked(), 3);
        x.book(0);
        due("the first", x.looked(), 3);
        x.book(-1);
        x.book(0);
        due("not yet on day 1", x.looked(), 0);
        x.day();
        x.day();
        due("from now on", x.looked(), NEVER);
        x.book(2);
        due("the second", x.looked(), 1);
        due("asked changes nothing", x.count(3), 2);
        ground(x, "sun 11 m=2;cold 0 h<9;low 20;high 50");
        x.set(0, 0, 40);
        x.book(-1);
        x.book(0);
        due("51 on day 1", x.looked(), NEVER);
    }

    private static void promise27() {
        LongNoon x = new LongNoon();
        due("no houses", x.judge(0, 0), NEVER);
        due("no houses", x.judge(0, -1), NEVER);
        x.tape(2, 1, 0);
        due("no houses", x.judge(2, 5), NEVER);
        x.tape(1, 2, 5);
        due("ints, and no houses", x.judge(1, 0), CAST);
        for (int i = 0; i < 3; i++) {
            x.house(0, 0, 50 + i, 0);
        }
        due("nothing there", x.judge(0, 0), 100);
        due("no such tape", x.judge(6, 0), NONE);
        due("no such tape", x.judge(-1, 0), NONE);
        for (int sort = 0; sort < 5; sort++) {
            x.tape(1, sort, 5);
            due("sort " + sort, x.judge(1, 9), sort == 1 ? 100 : CAST);
        }
        x.tape(0, 1, 5);
        for (int i = 0; i < 3; i++) {
            x.item(0, i + 1, 50 + i);
        }
        due("as it is", x.judge(0, 1), NEVER);
        due("the first is otherwise", x.judge(0, 0), 0);
        due("the first is otherwise", x.judge(0, 2), 0);
        due("below", x.judge(0, -1), 100);
        due("far below", x.judge(0, MIN), 100);
        due("beyond", x.judge(0, 5), 100);
        due("far beyond", x.judge(0, MAX), 100);
        x.item(0, 3, 99);
        due("the third is otherwise", x.judge(0, 1), 2);
        x.item(0, 3, 50);
        x.item(0, 4, 51);
        due("it ends after two", x.judge(0, 3), 102);
        x.item(0, 4, 52);
        due("otherwise ahead of the end", x.judge(0, 3), 1);
        x.item(0, 4, 50);
        due("it ends after one", x.judge(0, 4), 101);
        x.day();
        due("by the heat now", x.judge(0, 4), 0);
    }

    private static void promise28() {
        LongNoon x = new LongNoon();
        due("no houses", x.image(), 0);
        x.house(0, 0, 50, 40);
        x.house(0, 0, 50, 40);
        due("none, as it was", x.undo(), 0);
        due("none", x.count(0), 0);
        x.house(0, 0, 50, 40);
        due("one", x.image(), 1);
        x.house(0, 0, 60, 40);
        due("two", x.image(), 2);
        due("the newest counts", x.undo(), 2);
    }

    private static void promise29() {
        LongNoon x = new LongNoon();
        due("none is", x.undo(), STATE);
        ground(x, "low 33");
        x.house(6, 7, 50, 40);
        x.set(0, 1, 5);
        x.set(0, 2, 6);
        x.row(0, 2, 8);
        x.day();
        x.see(0, 2, 2);
        x.book(0);
        int[] was = new int[10];
        for (int what = 0; what < 10; what++) {
            was[what] = x.of(0, what);
        }
        due("one", x.image(), 1);
        for (int again = 0; again < 2; again++) {
            ground(x, "low 4" + again);
            x.house(1, 2, 3, 4);
            x.set(0, 0, 1);
            x.set(0, 1, 1);
            x.set(0, 2, 1);
            x.row(0, 2, 0);
            x.day();
            x.see(0, 3, 3);
            x.book(1);
            x.feed('a');
            x.act(0, 0, 1);
            x.tape(again, 3, 4);
            due("low", x.told(3), 40 + again);
            due("undo", x.undo(), 1);
            due("houses", x.count(0), 1);
            for (int what = 0; what < 10; what++) {
                due("of(0, " + what + ")", x.of(0, what), was[what]);
            }
            due("the row", x.row(0, 2, 8), 8);
            due("day", x.told(0), 1);
            due("seen", x.count(2), 1);
            due("what was seen", x.leaks(0), 0);
            due("book", x.count(3), 1);
            due("the ground that held", x.told(3), 33);
            due("no ground is lost", x.count(1), 2 + again);
            due("the text is not in the image", x.count(4), 1);
            due("nor the trace", x.count(5), 2);
            due("nor the tapes", x.read(again, 3), 0);
            ground(x, "");
        }
        due("the second house is gone", x.of(1, 0), -10001);
        LongNoon y = new LongNoon();
        y.image();
        ground(y, "low 3");
        y.undo();
        due("no ground held", y.told(3), 20);
        due("the next one's number", ground(y, "low 4"), 1);
    }

    private static void trace(LongNoon x, int... bodies) {
        for (int i = 0; i < bodies.length; i++) {
            due("trace(" + i + ")", x.trace(i), bodies[i]);
        }
        due("trace beyond", x.trace(bodies.length), NONE);
        due("count(5)", x.count(5), bodies.length);
    }

    private static LongNoon sixKinds() {
        LongNoon x = new LongNoon();
        int[] v = {2, 3, 5, 0, 7, 1};
        for (int kind = 0; kind < 6; kind++) {
            x.house(kind, v[kind], 50, 0);
        }
        return x;
    }

    private static void promise30() {
        LongNoon x = sixKinds();
        due("HOUSE warms", x.act(0, 0, 5), 5);
        due("HOUSE stores", x.act(0, 1, 5), 3);
        due("HOUSE tells", x.act(0, 2, 5), 6);
        due("GLASS warms", x.act(1, 0, MAX), MIN);
        due("GLASS stores", x.act(1, 1, 4), 4);
        due("GLASS tells", x.act(1, 2, 4), 8);
        due("SAND warms", x.act(2, 0, 4), 14);
        due("SAND stores", x.act(2, 1, 4), 9);
        due("SAND wraps", x.act(2, 0, 1 << 30), 3 * (1 << 30) + 2);
        due("SHADE tells", x.act(3, 2, 4), 18);
        due("SHADE stores", x.act(3, 1, 4), 7);
        due("OVEN warms", x.act(4, 0, 4), -8);
        due("OVEN stores", x.act(4, 1, 4), -10);
        due("OVEN tells", x.act(4, 2, 4), -20);
        due("DEEP warms", x.act(5, 0, 4), 17);
        due("DEEP tells", x.act(5, 2, 4), 2);
        LongNoon y = new LongNoon();
        y.house(6, 5, 50, 0);
        due("TOLD warms", y.act(0, 0, 4), 1);
        due("TOLD stores", y.act(0, 1, 4), -2);
        due("TOLD tells", y.act(0, 2, 4), -3);
        due("no act", y.act(0, 3, 4), 0);
        due("no act", y.act(0, -1, 4), 0);
        due("no house", y.act(1, 0, 4), 0);
        due("no house", y.act(-1, 0, 4), 0);
        due("no trace then", y.count(5), 0);
    }

    private static void promise31() {
        LongNoon x = sixKinds();
        due("no act yet", x.trace(0), NONE);
        x.act(0, 2, 1);
        trace(x, 12, 11, 10);
        x.act(1, 2, 4);
        trace(x, 12, 20, 11, 10);
        x.act(2, 1, 4);
        trace(x, 11, 30, 10);
        x.act(3, 2, 4);
        trace(x, 40, 12, 11, 10, 11, 10);
        x.act(4, 2, 4);
        trace(x, 12, 51, 20, 11, 50, 10);
        x.act(5, 2, 4);
        trace(x, 60, 12, 11, 30, 10);
        due("below", x.trace(-1), NONE);
        due("beyond", x.trace(20), NONE);
        due("far beyond", x.trace(MAX), NONE);
        x.act(6, 0, 0);
        trace(x);
        LongNoon y = new LongNoon();
        y.house(6, 5, 50, 0);
        y.act(0, 2, 4);
        trace(y, 40, 12, 70, 11, 71, 10, 10, 70, 11, 71, 10, 10);
        y.act(0, 3, 4);
        trace(y);
    }

    private static void promise32() {
        LongNoon x = sixKinds();
        String[] under = {"0", "01", "02", "03", "014", "025"};
        for (int kind = 0; kind < 6; kind++) {
            for (int k = 0; k < 7; k++) {
                due(kind + " for " + k, x.taken(kind, k), under[kind].indexOf('0' + k) >= 0 ? kind : CAST);
            }
        }
        LongNoon y = new LongNoon();
        y.house(6, 0, 0, 0);
        for (int k = 0; k < 7; k++) {
            due("6 for " + k, y.taken(0, k), k == 0 || k == 3 || k == 6 ? 6 : CAST);
        }
        due("k below", y.taken(0, -1), BAD);
        due("k above", y.taken(0, 7), BAD);
        due("no house", y.taken(1, 0), NOTHING);
        due("no house", y.taken(-1, 0), NOTHING);
        due("bad ahead of nothing", y.taken(1, 7), BAD);
    }

    private static void promise33() {
        LongNoon x = new LongNoon();
        ground(x, "low 1");
        ground(x, "low 1");
        x.house(0, 0, 0, 0);
        x.house(0, 0, 0, 0);
        x.house(0, 0, 0, 0);
        x.see(0, 0, 0);
        x.book(0);
        x.book(1);
        x.book(2);
        x.book(2);
        for (int i = 0; i < 5; i++) {
            x.feed('a');
        }
        x.act(0, 1, 1);
        int[] due = {3, 2, 1, 4, 5, 2};
        for (int what = 0; what < 6; what++) {
            due("count(" + what + ")", x.count(what), due[what]);
        }
        due("below", x.count(-1), BAD);
        due("above", x.count(6), BAD);
    }

    private static void promise34() {
        LongNoon x = new LongNoon();
        due("no such tape", x.tape(6, 0, 1), NONE);
        due("no such tape", x.tape(-1, 0, 1), NONE);
        due("none ahead of all", x.tape(6, 9, -1), NONE);
        due("sort below", x.tape(0, -2, 1), BAD);
        due("sort above", x.tape(0, 5, 1), BAD);
        due("n above", x.tape(0, 0, 61), BAD);
        due("n below", x.tape(0, 0, -1), SIZE);
        due("bad ahead of size", x.tape(0, 5, -1), BAD);
        due("nothing came", x.item(0, 0, 0), NOTHING);
        due("60", x.tape(0, 3, 60), 1);
        due("the last", x.item(0, 59, 7), 1);
        due("one more", x.item(0, 60, 7), PLACE);
        due("a row of 0", x.tape(5, 4, 0), 1);
        due("no item", x.item(5, 0, 7), PLACE);
        x.item(0, 0, 7);
        due("anew", x.tape(0, 3, 60), 1);
        due("all 0", x.read(0, 59), 0);
        due("all 0", x.read(0, 0), 0);
        x.item(0, 3, 7);
        due("size does not change it", x.tape(0, 0, MIN), SIZE);
        due("still there", x.read(0, 3), 7);
        due("nothing", x.tape(0, -1, MAX), 1);
        due("nothing", x.tape(1, -1, MIN), 1);
        due("nothing there", x.read(0, 3), NO);
        due("nothing there", x.item(0, 3, 1), NOTHING);
    }

    private static void item(LongNoon x, int sort, long v, long want) {
        x.tape(0, sort, 2);
        due("item", x.item(0, 1, v), 1);
        due("sort " + sort + " of " + v, x.read(0, 1), want);
        due("the other stays", x.read(0, 0), 0);
    }

    private static void promise35() {
        LongNoon x = new LongNoon();
        item(x, 0, 200, -56);
        item(x, 0, -129, 127);
        item(x, 0, 256, 0);
        item(x, 1, 32768, -32768);
        item(x, 1, -32769, 32767);
        item(x, 1, 199, 199);
        item(x, 2, 1L << 31, Integer.MIN_VALUE);
        item(x, 2, (1L << 32) + 5, 5);
        item(x, 3, Long.MAX_VALUE, Long.MAX_VALUE);
        item(x, 3, 1L << 40, 1L << 40);
        item(x, 4, 0, 0);
        item(x, 4, 2, 1);
        item(x, 4, 1L << 40, 1);
        item(x, 4, -1, 1);
        due("no such tape", x.item(6, 0, 0), NONE);
        due("no such tape", x.item(-1, 0, 0), NONE);
        due("nothing there", x.item(1, -1, 0), NOTHING);
        due("place below", x.item(0, -1, 0), PLACE);
        due("place beyond", x.item(0, 2, 0), PLACE);
        due("place far beyond", x.item(0, MAX, 0), PLACE);
    }

    private static void promise36() {
        LongNoon x = new LongNoon();
        x.tape(0, 3, 3);
        for (int i = 0; i < 3; i++) {
            x.item(0, i, 10 + i);
        }
        for (int i = 0; i < 3; i++) {
            due("read", x.read(0, i), 10 + i);
        }
        due("no such tape", x.read(6, 0), NO);
        due("no such tape", x.read(-1, 0), NO);
        due("nothing there", x.read(1, 0), NO);
        due("place below", x.read(0, -1), NO);
        due("place beyond", x.read(0, 3), NO);
        due("place far beyond", x.read(0, MIN), NO);
    }

    private static void promise37() {
        LongNoon x = counted(2);
        due("to another", x.shift(0, 1, 1, 0, 3), 3);
        row(x, 1, 2, 3, 4);
        row(x, 0, 1, 2, 3, 4, 5);
        due("to the same, on", x.shift(0, 0, 0, 1, 4), 4);
        row(x, 0, 1, 1, 2, 3, 4);
        due("to the same, back", x.shift(0, 1, 0, 0, 4), 4);
        row(x, 0, 1, 2, 3, 4, 4);
        due("none", x.shift(0, 5, 1, 3, 0), 0);
        due("beyond the one", x.shift(0, 3, 1, 0, 3), PLACE);
        due("beyond the other", x.shift(0, 0, 1, 1, 3), PLACE);
        due("beyond the one, none", x.shift(0, 6, 1, 0, 0), PLACE);
        due("beyond the other, none", x.shift(0, 0, 1, 4, 0), PLACE);
        due("i below", x.shift(0, -1, 1, 0, 1), PLACE);
        due("j below", x.shift(0, 0, 1, -1, 1), PLACE);
        due("n below", x.shift(0, 1, 1, 1, -1), PLACE);
        due("far beyond", x.shift(0, MAX, 1, 0, MAX), PLACE);
        due("far beyond", x.shift(0, 0, 1, MAX, 1), PLACE);
        due("far below", x.shift(0, MIN, 1, 0, MIN), PLACE);
        row(x, 0, 1, 2, 3, 4, 4);
        row(x, 1, 2, 3, 4);
        due("no such tape", x.shift(6, 0, 1, 0, 1), NONE);
        due("no such tape", x.shift(0, 0, -1, 0, 1), NONE);
        due("none ahead of nothing", x.shift(2, 0, 6, 0, 1), NONE);
        due("nothing there", x.shift(2, 0, 0, 0, 1), NOTHING);
        due("nothing there", x.shift(0, 0, 2, 0, 1), NOTHING);
        x.tape(3, 3, 5);
        due("of unlike sorts", x.shift(0, 0, 3, 0, 1), CAST);
        due("cast ahead of place", x.shift(0, 9, 3, 0, 1), CAST);
        due("nothing ahead of cast", x.shift(3, 9, 2, 0, 1), NOTHING);
        for (int sort = 0; sort < 5; sort++) {
            LongNoon y = counted(sort);
            due("sort " + sort, y.shift(0, 0, 1, 2, 1), 1);
            row(y, 1, 0, 0, 1);
        }
    }
}
