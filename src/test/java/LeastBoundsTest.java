/** CAP, FULL, HEAT, BIG, GIVES, TURN and ALIKE: each sentence of DOC.md that names a bound (promises 13 to 19). */
public final class LeastBoundsTest extends Due {
    public static void main(String[] args) {
        says("CAP: the least CAP (0 .. 99); -5: by none", LeastBoundsTest::cap);
        says("CAP: AMISS on none of DAYS 1 .. 56", LeastBoundsTest::capDays);
        says("CAP: in place of its own", LeastBoundsTest::capInPlace);
        says("CAP: what its STORE holds above its ROOM by that being gone now", LeastBoundsTest::capAboveRoom);
        says("FULL: the least that its STORE could hold now (0 .. its ROOM); -5: by none", LeastBoundsTest::full);
        says("FULL: AMISS on none of DAYS 1 .. 56", LeastBoundsTest::fullDays);
        says("HEAT: 0, 10, 20 .. 190", LeastBoundsTest::heat);
        says("HEAT: of several the least; on how many", LeastBoundsTest::heatOfSeveral);
        says("HEAT: the fewest of DAYS 1 .. 56", LeastBoundsTest::heatDays);
        says("BIG: one STORE for all: ROOM, what it holds, LEAK, together", LeastBoundsTest::bigTogether);
        says("BIG: of E, what that holds ahead of the DAY", LeastBoundsTest::bigRules);
        says("BIG: by numbers, they give and take", LeastBoundsTest::bigByNumbers);
        says("BIG: on how many of DAYS 1 .. 28 one of them or more", LeastBoundsTest::bigDays);
        says("GIVES: n (0 .. 99)", LeastBoundsTest::givesN);
        says("GIVES: no more than its STORE holds", LeastBoundsTest::givesHeld);
        says("GIVES: no more than there is ROOM for", LeastBoundsTest::givesRoom);
        says("GIVES: how many DAYS fewer (of 1 .. 56; may be below 0)", LeastBoundsTest::givesDays);
        says("TURN: the n (1 .. 28)", LeastBoundsTest::turnN);
        says("TURN: if SUN of it were 0 on DAYS n .. n and 4", LeastBoundsTest::turnFive);
        says("TURN: SUN of it were 0", LeastBoundsTest::turnSun);
        says("TURN: on the fewest of DAYS 1 .. 56; of several the least", LeastBoundsTest::turnDays);
        says("ALIKE: on how many of DAYS 1 .. 28 both are AMISS, or none is", LeastBoundsTest::alike);
        says("DAYS 1, 2 .. are the next one and so on", LeastBoundsTest::nextDays);
        says("heat, big, turn: what 0, 1; NONE", LeastBoundsTest::whats);
        end();
    }

    /** A clock whose row is 9, 9, 4, 4: 140 warmer by 56 days. */
    private static LongNoon fast(int heat, int cap) {
        LongNoon x = clocked(WIDE, heat, cap, 0);
        x.row(0, 0, 9);
        x.row(0, 1, 9);
        return x;
    }

    private static void cap() {
        due("nothing is above", fast(0, 50).cap(0), 41);
        due("0", clocked(WIDE, 43, 50, 1).cap(0), 0);
        due("1", clocked(WIDE, 44, 50, 1).cap(0), 1);
        due("98", fast(57, 0).cap(0), 98);
        due("99", fast(58, 0).cap(0), 99);
        due("100 is none", fast(59, 0).cap(0), NEVER);
        due("far more is none", fast(199, 99).cap(0), NEVER);
        due("amiss whatever the cap", with(STILL, HOUSE, 0, 29, 99).cap(0), NEVER);
        LongNoon sand = with("sun 2 h<9;cold 0 h<9;low 0;high 50", SAND, 9, 50, 0);
        due("v is room, too", sand.cap(0), 56 - 9);
        sand = with("sun 1 m<3;cold 0 h<9;low 0;high 50", SAND, 7, 50, 99);
        due("v is enough, 6 of 7", sand.cap(0), 0);
        sand.set(0, 0, 51);
        due("v is enough, 7 of 7", sand.cap(0), 0);
        sand.set(0, 0, 52);
        due("v and 1", sand.cap(0), 1);
    }

    private static void capDays() {
        due("above on day 57", clocked(WIDE, 43, 0, 1).cap(0), 0);
        due("above on day 56", clocked(WIDE, 44, 0, 1).cap(0), 1);
        due("above on days 55 and 56", clocked(WIDE, 45, 0, 1).cap(0), 2);
        due("above on day 1", clocked(WIDE, 99, 0, 1).cap(0), 56);
    }

    private static void capInPlace() {
        LongNoon x = clocked(WIDE, 99, 10, 1);
        due("more than its own", x.cap(0), 56);
        due("its own stays", x.of(0, 4), 10);
        due("its room stays", x.of(0, 6), 10);
        due("and is asked of", x.first(0), 11);
        x = clocked(WIDE, 43, 99, 1);
        due("less than its own", x.cap(0), 0);
        due("its own stays", x.of(0, 4), 99);
    }

    private static void capAboveRoom() {
        // From 76 on it is at low on day 56: a store of n is as good as 76 - heat.
        LongNoon x = clocked("sun 0 h<9;cold 0 h<9;low 20;high 99", 56, 99, -1);
        for (int held : new int[] {20, 21, 99}) {
            x.set(0, 1, held);
            due("holds " + held + ", needs 20", x.cap(0), 20);
            due("it stays", x.of(0, 3), held);
        }
        x.set(0, 1, 19);
        due("holds 19, needs 20", x.cap(0), NEVER);
        x = with("sun 0 h<9;cold 1 m<20;low 20;high 99", DEEP, 9, 20, 99);
        x.set(0, 1, 108);
        due("the deep needs nothing", x.cap(0), 0);
        x = with("sun 0 h<9;cold 10 m<17;low 20;high 99", SAND, 9, 20, 99);
        x.set(0, 1, 108);
        due("3 days of 10 in each of two moons, 9 of it by v", x.cap(0), 51);
    }

    private static LongNoon cooling(int heat, int cap) {
        return clocked("sun 0 h<9;cold 0 h<9;low 20;high 99", heat, cap, -1);
    }

    private static void full() {
        due("nothing", cooling(76, 99).full(0), 0);
        due("nothing, and no room", cooling(76, 0).full(0), 0);
        due("1", cooling(75, 99).full(0), 1);
        due("its room", cooling(75, 1).full(0), 1);
        due("1 more than its room", cooling(75, 0).full(0), NEVER);
        due("its room", cooling(26, 50).full(0), 50);
        due("1 less than its room", cooling(27, 50).full(0), 49);
        due("1 more than its room", cooling(25, 50).full(0), NEVER);
        LongNoon x = with("sun 0 h<9;cold 54 m=14;low 99;high 99", SAND, 9, 99, 99);
        due("all 108 of sand", x.full(0), 108);
        x = with("sun 0 h<9;cold 54 m=14;low 99;high 99", SAND, 8, 99, 99);
        due("107 are too few", x.full(0), NEVER);
        x = cooling(70, 99);
        for (int held : new int[] {0, 5, 6, 7, 99}) {
            x.set(0, 1, held);
            due("what it holds does not matter", x.full(0), 6);
            due("and stays", x.of(0, 3), held);
        }
        due("too hot for all", with(STILL, HOUSE, 0, 51, 0).full(0), NEVER);
        // What is full has no room for what is above: less is better, and the least of all counts.
        due("nothing in it leaves room", with(STILL, HOUSE, 0, 60, 10).full(0), 0);
        due("10 are too little room for 11", with(STILL, HOUSE, 0, 61, 10).full(0), NEVER);
    }

    private static void fullDays() {
        due("below on day 57", cooling(76, 99).full(0), 0);
        due("below on day 56", cooling(75, 99).full(0), 1);
        due("below on day 1", cooling(20, 99).full(0), 56);
    }

    private static void heat(LongNoon x, int best, int days) {
        due("the heat", x.heat(0, 0), best);
        due("on how many", x.heat(0, 1), days);
    }

    private static void heat() {
        heat(clocked("sun 0 h<9;cold 0 h<9;low 1;high 99", 50, 0, 1), 0, 0);
        heat(clocked("sun 0 h<9;cold 0 h<9;low 2;high 99", 50, 0, 1), 10, 0);
        heat(clocked("sun 0 h<9;cold 0 h<9;low 11;high 99", 50, 0, 1), 10, 0);
        heat(clocked("sun 0 h<9;cold 0 h<9;low 12;high 99", 50, 0, 1), 20, 0);
        // Only what is stored helps: 190 gives 87 into the store, 21 days of 4 and the first are fine.
        heat(clocked("sun 0 h<9;cold 0 h<9;low 99;high 99", 0, 99, -4), 190, 34);
        // With less room, 180 gives as much: 75.
        heat(clocked("sun 0 h<9;cold 0 h<9;low 99;high 99", 0, 75, -4), 180, 37);
        LongNoon x = clocked(WIDE, 199, 99, 1);
        heat(x, 0, 0);
        due("its own stays", x.of(0, 2), 199);
    }

    private static void heatOfSeveral() {
        heat(with(STILL, HOUSE, 0, 199, 0), 30, 0);
        heat(with("sun 0 h<9;cold 0 h<9;low 31;high 39", HOUSE, 0, 35, 0), 0, 56);
        heat(with("sun 0 h<9;cold 0 h<9;low 31;high 40", HOUSE, 0, 35, 0), 40, 0);
        heat(with("sun 0 h<9;cold 0 h<9;low 30;high 39", HOUSE, 0, 35, 0), 30, 0);
        heat(with("sun 0 h<9;cold 0 h<9;low 0;high 0", HOUSE, 0, 35, 0), 0, 0);
    }

    private static void heatDays() {
        heat(clocked("sun 0 h<9;cold 0 h<9;low 24;high 99", 50, 0, -1), 80, 0);
        heat(clocked("sun 0 h<9;cold 0 h<9;low 25;high 99", 50, 0, -1), 90, 0);
        heat(clocked("sun 0 h<9;cold 0 h<9;low 34;high 99", 50, 0, -1), 90, 0);
        heat(clocked("sun 0 h<9;cold 0 h<9;low 44;high 99", 50, 0, -1), 100, 0);
        // 110 is amiss on days 1 .. 10, 100 on day 56 alone.
        heat(clocked("sun 0 h<9;cold 0 h<9;low 45;high 99", 50, 0, -1), 100, 1);
    }

    private static LongNoon two(String text, int heat, int cap, int otherHeat, int otherCap) {
        LongNoon x = with(text, HOUSE, 0, heat, cap);
        due("other", x.house(SAND, 3, otherHeat, otherCap), 1);
        return x;
    }

    private static void big(LongNoon x, int days, int holds) {
        due("on how many", x.big(0), days);
        due("what it holds", x.big(1), holds);
    }

    private static void bigTogether() {
        big(new LongNoon(), 0, 0);
        big(on(STILL), 0, 0);
        big(two(STILL, 63, 10, 40, 0), 0, 13);
        big(two(STILL, 64, 10, 40, 0), 28, 13);
        big(two(STILL, 40, 0, 63, 10), 0, 13);
        LongNoon x = two(STILL, 40, 20, 40, 17);
        x.set(0, 1, 17);
        x.set(1, 1, 20);
        big(x, 0, 37);
        x.set(0, 2, 1);
        big(x, 0, 9);
        x.set(1, 2, 1);
        big(x, 0, 0);
        x.set(0, 0, 29);
        big(x, 0, 0);
        // 18 of 37 leak: 19 are left to give.
        x.set(0, 2, 9);
        x.set(1, 2, 9);
        x.set(0, 0, 11);
        big(x, 0, 0);
        x.set(0, 0, 10);
        big(x, 28, 0);
        x.set(1, 2, 8);
        big(x, 0, 0);
        x.set(0, 0, 9);
        big(x, 28, 0);
        due("its own stays", x.of(0, 3), 17);
        due("its own stays", x.of(1, 3), 20);
        due("its own stays", x.of(0, 2), 9);
        due("day", x.told(0), 0);
        // Of a house that an undo() took nothing is left, though big() was asked with it.
        x = with(STILL, HOUSE, 0, 40, 20);
        x.set(0, 1, 5);
        x.image();
        x.house(HOUSE, 0, 199, 20);
        x.set(1, 1, 7);
        x.set(1, 2, 1);
        big(x, 28, 40);
        x.undo();
        big(x, 0, 5);
    }

    private static void bigRules() {
        LongNoon x = two("sun 1 s=1;cold 0 h<9;low 0;high 99", 40, 9, 40, 9);
        x.set(0, 1, 5);
        x.set(1, 1, 4);
        big(x, 0, 9);
        due("nobody warms by 9", x.on(0, 1, 0), 40);
        // s is 1 from 10 on: 14 days of light make both 14 warmer, from 86 on 1 goes to the store for each.
        x.set(1, 1, 5);
        x.set(0, 0, 86);
        big(x, 0, 11);
        x.set(0, 0, 85);
        big(x, 0, 10);
        // What leaks on the day itself does not matter to s.
        x.set(0, 0, 98);
        x.set(0, 2, 9);
        big(x, 0, 0);
        x.set(0, 0, 99);
        big(x, 0, 0);
        due("by its own store of 5 it would not be", x.on(0, 1, 0), 99);
        x.set(0, 2, 0);
        x.set(0, 0, 95);
        big(x, 0, 20);
        x.set(0, 0, 40);
        x.set(0, 1, 9);
        x.set(1, 1, 10);
        due("19 together", x.big(1), 19);
    }

    private static void bigByNumbers() {
        // The first gives, the second takes what was given on the same day.
        big(two(STILL, 51, 1, 29, 0), 0, 0);
        big(two(STILL, 52, 1, 29, 0), 0, 1);
        // The first takes ahead of what the second gives: amiss on day 1 alone.
        big(two(STILL, 29, 1, 51, 0), 1, 0);
        big(two(STILL, 29, 1, 52, 0), 1, 1);
        LongNoon x = two(STILL, 29, 1, 29, 0);
        x.set(0, 1, 1);
        big(x, 28, 0);
        x.set(0, 0, 30);
        big(x, 0, 0);
        x.set(0, 0, 29);
        x.set(1, 0, 30);
        big(x, 0, 0);
        x = on(STILL);
        for (int i = 0; i < 6; i++) {
            x.house(HOUSE, 0, i % 2 == 0 ? 55 : 25, i == 5 ? 5 : 0);
        }
        big(x, 0, 0);
        x.set(4, 0, 54);
        big(x, 28, 0);
    }

    private static void bigDays() {
        big(clocked(WIDE, 71, 0, 1), 0, 0);
        big(clocked(WIDE, 72, 0, 1), 1, 0);
        big(clocked(WIDE, 73, 0, 1), 2, 0);
        big(clocked(WIDE, 99, 0, 1), 28, 0);
        big(clocked(WIDE, 99, 27, 1), 1, 27);
        big(clocked(WIDE, 99, 28, 1), 0, 28);
        big(clocked(WIDE, 99, 29, 1), 0, 28);
        LongNoon x = on(WIDE);
        clock(x, 99, 0, 1);
        clock(x, 199, 0, 0);
        big(x, 28, 0);
        x.set(1, 0, 50);
        x.set(0, 0, 98);
        big(x, 27, 0);
        x = with(STILL, HOUSE, 0, 40, 99);
        x.set(0, 1, 29);
        x.set(0, 2, 1);
        big(x, 0, 1);
        x.set(0, 1, 28);
        big(x, 0, 0);
        x = with("sun 0 h<9;cold 20 m=27;low 20;high 80", HOUSE, 0, 39, 0);
        due("on day 28", x.big(0), 1);
        x.day();
        due("on day 27", x.big(0), 2);
        x.set(0, 0, 40);
        due("on none", x.big(0), 0);
    }

    private static void givesN() {
        LongNoon x = with(STILL, DEEP, 9, 40, 99);
        x.house(SAND, 9, 0, 99);
        x.set(0, 1, 108);
        bounds("n", 0, 99, n -> x.gives(0, 1, n), BAD_GIFT, n -> n < 30 ? 0 : 56);
        due("29 are too few", x.gives(0, 1, 29), 0);
        due("30 are enough", x.gives(0, 1, 30), 56);
        due("it stays", x.of(0, 3), 108);
        due("it stays", x.of(1, 3), 0);
    }

    private static void givesHeld() {
        LongNoon x = with(STILL, HOUSE, 0, 40, 99);
        x.house(HOUSE, 0, 20, 99);
        for (int held : new int[] {0, 9, 10, 11}) {
            x.set(0, 1, held);
            for (int n : new int[] {9, 10, 11, 99}) {
                due(n + " of " + held, x.gives(0, 1, n), held < 10 || n < 10 ? 0 : 56);
            }
        }
        due("one that holds nothing", x.gives(1, 0, 99), 0);
    }

    private static void givesRoom() {
        int[] kinds = {HOUSE, SAND};
        for (int kind : kinds) {
            for (int room : new int[] {9, 10, 11}) {
                LongNoon x = with(STILL, HOUSE, 0, 29, 99);
                x.house(kind, 4, 20, kind == SAND ? room - 4 : room);
                x.set(0, 1, 20);
                // The giver itself needs 1: it may keep what there is no room for.
                due("room for " + room, x.gives(0, 1, 99), room < 10 ? 0 : 56);
                due("of 20, room for " + room, x.gives(0, 1, 20), room < 10 ? 0 : 56);
                due("of 10, room for " + room, x.gives(0, 1, 10), room < 10 ? 0 : 56);
                x.set(1, 1, 1);
                due("room for one less", x.gives(0, 1, 99), room < 10 ? 0 : 56);
                due("9 and 1", x.gives(0, 1, 9), room < 10 ? 0 : 56);
                due("8 and 1", x.gives(0, 1, 8), 0);
            }
        }
        LongNoon x = with(STILL, HOUSE, 0, 29, 99);
        x.house(HOUSE, 0, 40, 5);
        x.set(0, 1, 1);
        due("what it needs itself", x.gives(0, 1, 1), -56);
        x.set(1, 1, 4);
        due("room for it", x.gives(0, 1, 99), -56);
        x.set(1, 1, 5);
        due("no room for it", x.gives(0, 1, 99), 0);
    }

    private static void givesDays() {
        LongNoon x = cooling(75, 99);
        x.house(HOUSE, 0, 50, 99);
        x.set(1, 1, 50);
        due("day 56", x.gives(1, 0, 1), 1);
        due("day 56", x.gives(1, 0, 50), 1);
        x.set(0, 0, 76);
        due("day 57", x.gives(1, 0, 1), 0);
        x.set(0, 0, 20);
        due("the first of 56", x.gives(1, 0, 1), 1);
        due("50 of 56", x.gives(1, 0, 50), 50);
        x.set(0, 1, 6);
        due("and 6 that it has", x.gives(1, 0, 50), 50);
        x.set(0, 1, 7);
        due("one too many", x.gives(1, 0, 50), 49);
        x.set(0, 0, 74);
        x.set(0, 1, 2);
        due("one lost", x.gives(0, 1, 1), -1);
        due("two lost", x.gives(0, 1, 2), -2);
        due("no more than it holds", x.gives(0, 1, 3), -2);
        x.set(1, 0, 19);
        x.set(1, 1, 0);
        due("2 lost, 56 won", x.gives(0, 1, 2), 54);
        due("1 lost, 56 won", x.gives(0, 1, 1), 55);
        due("none given", x.gives(0, 1, 0), 0);
    }

    private static void turn(LongNoon x, int n, int days) {
        due("the n", x.turn(0, 0), n);
        due("on how many", x.turn(0, 1), days);
    }

    /** A house that at moon on is on day 1, whose heat then is so much. */
    private static LongNoon from(String text, int moon, int heat) {
        LongNoon x = with(text, HOUSE, 0, 40, 0);
        days(x, moon);
        x.set(0, 0, heat);
        return x;
    }

    private static void turnN() {
        String once = "sun 20 m=0;cold 0 h<9;low 0;high 50";
        // The sun of day 1 (and 29): only n 1 turns it away; that of day 29 is 28 days later.
        turn(from(once, 0, 31), 1, 28);
        turn(from(once, 0, 10), 1, 0);
        // Days 28 and 56: first by n 24.
        turn(from(once, 1, 31), 24, 1);
        // Days 28 and 32 (and 4, 56, 60): both by n 28 alone.
        turn(from("sun 15 m=4|m=8;cold 0 h<9;low 0;high 50", 5, 10), 28, 0);
        // Days 29 and 33 (20 has become 15 by then): both by n 29 alone, which is none; on day 45 it is 35.
        turn(from("sun 25 (m=4|m=8)&!e=2;cold 5 m=20;low 0;high 39", 4, 20), 25, 12);
    }

    private static void turnFive() {
        // Days 6 and 10 (and 34, 38): n 6 covers both.
        turn(from("sun 11 m=5|m=9;cold 0 h<9;low 0;high 50", 0, 29), 6, 19);
        // Days 6 and 11 (and 34, 39): no n does.
        turn(from("sun 11 m=5|m=10;cold 0 h<9;low 0;high 50", 0, 29), 2, 23);
        // Day 6 alone: n 2 is the first of five.
        turn(from("sun 20 m=5;cold 0 h<9;low 0;high 59", 0, 20), 2, 0);
        // Day 1 alone.
        turn(from("sun 20 m=0;cold 0 h<9;low 0;high 59", 0, 20), 1, 0);
        // Days 1 .. 5 of every moon: n 1 takes 5 of them, n 2 takes 4.
        turn(from("sun 4 m<5;cold 0 h<9;low 0;high 50", 0, 30), 1, 0);
        turn(from("sun 4 m<5;cold 0 h<9;low 0;high 49", 0, 30), 1, 24);
    }

    private static void turnSun() {
        // The most sun that a text can tell is gone, too.
        String most = "sun 99 h<9" + ";sun 99 h<9".repeat(8);
        turn(with(most, GLASS, 0, 50, 0), 1, 45);
        // What is not of the sun stays: v of an OVEN, a ROW.
        turn(with("sun 9 m=0;low 0;cold 0 h<9;high 55", OVEN, 1, 0, 0), 1, 19);
        LongNoon x = with("sun 99 m=0;cold 0 h<9;low 0;high 55", TOLD, 0, 50, 0);
        x.row(0, 0, 9);
        turn(x, 1, 52);
        // Behind the fifth day the sun is back.
        turn(with("sun 60 m<9;cold 0 h<9;low 0;high 50", HOUSE, 0, 0, 0), 1, 51);
    }

    private static void turnDays() {
        String ten = "sun 10 m=0;cold 0 h<9;low 0;high 50";
        // Days 1, 29 and 57: 50 by the second.
        turn(from(ten, 0, 30), 1, 0);
        // Days 28 and 56: 51 by the second, if the first is not turned away.
        turn(from(ten, 1, 31), 24, 0);
        turn(from(ten, 1, 30), 1, 0);
        // Day 29 alone of 1 .. 56, and 57: as it is on none, the least n.
        turn(from("sun 10 m=1;cold 0 h<9;low 0;high 50", 1, 30), 1, 0);
        turn(with(STILL, HOUSE, 0, 29, 0), 1, 56);
        turn(with(STILL, HOUSE, 0, 30, 0), 1, 0);
        LongNoon x = from(ten, 1, 31);
        due("heat stays", x.of(0, 2), 31);
        due("day stays", x.told(0), 1);
    }

    private static void alike() {
        for (int[] by : new int[][] {{71, 28}, {72, 27}, {73, 26}, {98, 1}, {99, 0}, {199, 0}, {0, 28}}) {
            LongNoon x = clocked(WIDE, by[0], 0, 1);
            x.house(HOUSE, 0, 50, 0);
            due("none is, by " + by[0], x.alike(0, 1), by[1]);
            due("none is, by " + by[0], x.alike(1, 0), by[1]);
            x.set(1, 0, 199);
            due("both are, by " + by[0], x.alike(0, 1), 28 - by[1]);
            due("both are, by " + by[0], x.alike(1, 0), 28 - by[1]);
        }
        LongNoon x = on(WIDE);
        clock(x, 80, 0, 1);
        clock(x, 90, 0, 1);
        due("9 days of none, 9 of both", x.alike(0, 1), 18);
        due("one house", x.alike(1, 1), BAD);
    }

    private static void nextDays() {
        LongNoon x = onDayOne("low 0;high 50", 41);
        due("1 on day 3, 10 on day 31", x.cap(0), 11);
        due("no need of a store", x.full(0), 0);
        heat(x, 0, 0);
        turn(x, 1, 0);
        big(x, 0, 1);
        x = onDayOne("low 50;high 50", 40);
        due("amiss on days 1 and 2: 50 has none", x.heat(0, 0), 50);
        x.house(HOUSE, 0, 50, 99);
        x.set(1, 1, 99);
        due("20 for days 1 and 2", x.gives(1, 0, 20), 2);
        due("10 for days 1 and 2", x.gives(1, 0, 10), 2);
        due("9 are too few for day 1", x.gives(1, 0, 9), 0);
        due("10 are needed", x.full(0), 10);
        due("both fine from day 3 on", x.alike(0, 1), 26);
        String each = "sun 10 m=3&h=0;sun 10 m=5&h=1;cold 0 h<9;low 0;high 50";
        x = with(each, HOUSE, 0, 41, 0);
        x.house(HOUSE, 0, 41, 0);
        due("not alike on days 4 and 5", x.alike(0, 1), 26);
        due("not alike on days 4 and 5", x.alike(1, 0), 26);
        days(x, 4);
        x.set(0, 0, 41);
        due("alike on days 1 and 28", x.alike(0, 1), 2);
        due("alike on days 1 and 28", x.alike(1, 0), 2);
        // From day 1 on: without the sun of day 3 it is 51 on day 31 alone.
        x = with("sun 10 m=3;cold 0 h<9;low 0;high 50", HOUSE, 0, 0, 0);
        x.day();
        x.set(0, 0, 41);
        turn(x, 1, 26);
    }

    private static void whats() {
        LongNoon x = clocked(WIDE, 90, 10, 1);
        int[] heat = {0, 0};
        int[] big = {9, 10};
        int[] turn = {1, 37};
        bounds("what of heat", 0, 1, what -> x.heat(0, what), NONE, what -> heat[what & 1]);
        bounds("what of big", 0, 1, what -> x.big(what), NONE, what -> big[what & 1]);
        bounds("what of turn", 0, 1, what -> x.turn(0, what), NONE, what -> turn[what & 1]);
    }
}
