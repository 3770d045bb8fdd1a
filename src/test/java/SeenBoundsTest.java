/** SEEN, LEAKS, DRY, ODDS, MEAN and the BOOK: each sentence of DOC.md that names a bound (promises 20 to 26). */
public final class SeenBoundsTest extends Due {
    public static void main(String[] args) {
        says("SEEN: n DAYS (0 .. 30)", SeenBoundsTest::seenDays);
        says("SEEN: holds (0 .. 199)", SeenBoundsTest::seenHolds);
        says("SEEN: 8 at most; FULL: 8", SeenBoundsTest::eightSeen);
        says("see: house -1: none then, 0, whatever the others are", SeenBoundsTest::seenNone);
        says("LEAKS (bits 0 .. 9)", SeenBoundsTest::leaks);
        says("LEAKS: all that is SEEN of it", SeenBoundsTest::allSeen);
        says("LEAKS: n DAYS (0 .. 30) from now", SeenBoundsTest::leaksByDay);
        says("LEAKS: in place of its own", SeenBoundsTest::leaksInPlace);
        says("DRY: the first of DAYS 1 .. 60 behind which its STORE holds nothing; -5: none", SeenBoundsTest::dry);
        says("ODDS: if dust takes 0, 1, 2 .. 9 from SUN of it", SeenBoundsTest::odds);
        says("ODDS: SUN is 0 at least", SeenBoundsTest::oddsOfNoSun);
        says("ODDS: on DAY 1", SeenBoundsTest::oddsOfDayOne);
        says("DAYS 1, 2 .. are the next one and so on", SeenBoundsTest::nextDays);
        says("a fraction in lowest terms; part 0 above, 1 below the line; NO", SeenBoundsTest::parts);
        says("MEAN of n DAYS (1 .. 60); NO: none", SeenBoundsTest::mean);
        says("MEAN: HEAT of all, by n times how many HOUSES", SeenBoundsTest::meanOfAll);
        says("A BOOK: HOUSES (12 at most); FULL: 12; -1: it is empty then, 0", SeenBoundsTest::book);
        says("for DAYS 1, 2, 3 ..", SeenBoundsTest::bookDays);
        says("LOOKED at: the first that is not AMISS on its DAY (-5: none)", SeenBoundsTest::looked);
        end();
    }

    private static LongNoon store(int holds, int leak) {
        LongNoon x = with(STILL, HOUSE, 0, 40, 99);
        x.set(0, 1, holds);
        x.set(0, 2, leak);
        return x;
    }

    private static void seenDays() {
        bounds("n", 0, 30, n -> store(50, 0).see(0, n, 50), BAD, 1);
    }

    private static void seenHolds() {
        bounds("holds", 0, 199, holds -> store(50, 0).see(0, 3, holds), BAD, 1);
        LongNoon x = store(99, 0);
        x.see(0, 0, 199);
        due("more than there is room for is never so", x.leaks(0), 0);
    }

    private static void eightSeen() {
        LongNoon x = store(50, 0);
        for (int i = 1; i <= 7; i++) {
            due("seen", x.see(0, i, 50), i);
            due("how many", x.count(2), i);
        }
        due("all of them so", x.leaks(0), 1);
        due("an eighth", x.see(0, 8, 49), 8);
        due("which counts", x.leaks(0), 0);
        due("a ninth", x.see(0, 9, 50), FULL);
        due("of another", x.house(HOUSE, 0, 40, 99), 1);
        due("a ninth", x.see(1, 0, 1), FULL);
        due("which does not count", x.leaks(1), 1023);
        due("eight stay", x.count(2), 8);
        due("none then", x.see(-1, 0, 0), 0);
        due("none", x.count(2), 0);
        due("nothing seen", x.leaks(0), 1023);
        due("from 1 on", x.see(0, 0, 50), 1);
        due("what was is gone", x.leaks(0), 1023);
    }

    private static void seenNone() {
        LongNoon x = new LongNoon();
        due("without a house", x.see(-1, 0, 0), 0);
        x.house(HOUSE, 0, 40, 99);
        for (int other : new int[] {MIN, -1, 31, 200, MAX}) {
            due("one", x.see(0, 0, 0), 1);
            due("n " + other, x.see(-1, other, 0), 0);
            due("none", x.count(2), 0);
            due("one", x.see(0, 0, 0), 1);
            due("holds " + other, x.see(-1, 0, other), 0);
            due("none", x.count(2), 0);
        }
        due("-2 is no house", x.see(-2, 0, 0), NONE);
        due("one beyond is no house", x.see(1, 0, 0), NONE);
        due("the last is one", x.see(0, 0, 0), 1);
    }

    private static void leaks() {
        due("nothing seen: all", store(99, 9).leaks(0), 1023);
        for (int leak = 0; leak <= 9; leak++) {
            LongNoon x = store(99, 5);
            x.see(0, 1, 99 - leak);
            due("leak " + leak, x.leaks(0), 1 << leak);
        }
        LongNoon x = store(99, 5);
        x.see(0, 1, 89);
        due("10 is none", x.leaks(0), 0);
        x = store(98, 5);
        x.see(0, 1, 99);
        due("it does not fill by itself", x.leaks(0), 0);
        for (int held = 0; held <= 9; held++) {
            x = store(held, 0);
            x.see(0, 1, 0);
            due("gone on the first day, from " + held, x.leaks(0), 1024 - (1 << held));
        }
        x = store(10, 0);
        x.see(0, 1, 0);
        due("10 are not gone", x.leaks(0), 0);
    }

    private static void allSeen() {
        LongNoon x = store(60, 0);
        x.house(HOUSE, 0, 40, 99);
        x.set(1, 1, 20);
        x.see(0, 20, 0);
        due("3 and above", x.leaks(0), 1023 - 7);
        x.see(0, 10, 20);
        due("and 4", x.leaks(0), 16);
        x.see(1, 5, 10);
        due("what is seen of another does not matter", x.leaks(0), 16);
        due("nor to that other", x.leaks(1), 4);
        x.see(0, 10, 20);
        due("twice the same", x.leaks(0), 16);
        x.see(0, 10, 21);
        due("two at once", x.leaks(0), 0);
    }

    private static void leaksByDay() {
        LongNoon x = store(99, 0);
        x.see(0, 0, 99);
        due("now: all", x.leaks(0), 1023);
        x.see(-1, 0, 0);
        x.see(0, 0, 98);
        due("not so now", x.leaks(0), 0);
        x.see(-1, 0, 0);
        x.see(0, 30, 9);
        due("behind day 30", x.leaks(0), 8);
        x.see(-1, 0, 0);
        x.see(0, 30, 12);
        due("behind day 29 it is that", x.leaks(0), 0);
        x.see(-1, 0, 0);
        x.see(0, 29, 12);
        due("behind day 29", x.leaks(0), 8);
        x.see(-1, 0, 0);
        x.see(0, 30, 0);
        due("0 at least", x.leaks(0), 1023 - 15);
        x.see(-1, 0, 0);
        x.see(0, 1, 96);
        due("behind day 1", x.leaks(0), 8);
        x.day();
        due("from the now of the asking", x.leaks(0), 8);
        x.set(0, 1, 97);
        due("from what it holds now", x.leaks(0), 2);
    }

    private static void leaksInPlace() {
        LongNoon x = store(50, 7);
        x.see(0, 2, 44);
        due("its own does not matter", x.leaks(0), 8);
        due("it stays", x.of(0, 5), 7);
        due("the store stays", x.of(0, 3), 50);
        x = with("sun 0 h<9;cold 0 h<9;low 43", HOUSE, 0, 40, 99);
        x.set(0, 1, 9);
        x.see(0, 1, 2);
        due("3 are given out of what has not leaked", x.leaks(0), 16);
    }

    private static void dry() {
        for (int held : new int[] {1, 2, 59, 60}) {
            due("dry by 1 from " + held, store(held, 1).dry(0), held);
        }
        due("61 are too many", store(61, 1).dry(0), NEVER);
        due("none now, none on day 1", store(0, 0).dry(0), 1);
        due("none now, none on day 1", store(0, 9).dry(0), 1);
        due("9 by 9", store(9, 9).dry(0), 1);
        due("10 by 9", store(10, 9).dry(0), 2);
        due("8 by 9", store(8, 9).dry(0), 1);
        due("no leak", store(1, 0).dry(0), NEVER);
        LongNoon x = with(STILL, HOUSE, 0, 51, 99);
        due("filled on day 1", x.dry(0), NEVER);
        x.set(0, 2, 1);
        due("filled on day 1, gone on day 2", x.dry(0), 2);
        x = with(STILL, HOUSE, 0, 21, 99);
        x.set(0, 1, 9);
        due("given out on day 1", x.dry(0), 1);
        x.set(0, 1, 10);
        due("1 is left", x.dry(0), NEVER);
        x = clocked("sun 0 h<9;cold 0 h<9;low 30;high 99", 89, 99, -1);
        x.set(0, 1, 1);
        due("given out on day 60", x.dry(0), 60);
        x.set(0, 0, 90);
        due("given out on day 61", x.dry(0), NEVER);
        x.day();
        due("which is day 60 then", x.dry(0), 60);
    }

    private static void odds(LongNoon x, int above, int below) {
        due("above the line, heat " + x.of(0, 2), x.odds(0, 0), above);
        due("below the line, heat " + x.of(0, 2), x.odds(0, 1), below);
    }

    private static void odds() {
        int[][] all = {{70, 0, 1}, {71, 1, 10}, {72, 1, 5}, {73, 3, 10}, {74, 2, 5}, {75, 1, 2}, {76, 3, 5},
            {77, 7, 10}, {78, 4, 5}, {79, 9, 10}, {80, 1, 1}, {199, 1, 1}, {20, 0, 1}, {19, 0, 1}, {18, 1, 10},
            {11, 4, 5}, {10, 9, 10}, {9, 1, 1}};
        for (int[] by : all) {
            odds(made(HOUSE, 0, by[0], 0), by[1], by[2]);
        }
        odds(made(GLASS, 0, 79, 0), 1, 1);
        odds(made(GLASS, 0, 78, 0), 9, 10);
        odds(made(SHADE, 0, 76, 0), 1, 10);
        odds(made(SHADE, 0, 77, 0), 3, 10);
        odds(made(HOUSE, 0, 80, 1), 9, 10);
        odds(made(HOUSE, 0, 80, 10), 0, 1);
    }

    private static void oddsOfNoSun() {
        odds(with("sun 3 h<9", HOUSE, 0, 80, 0), 3, 10);
        odds(with("sun 3 h<9", HOUSE, 0, 20, 0), 0, 1);
        odds(with("sun 3 h<9", HOUSE, 0, 19, 0), 7, 10);
        odds(with("sun 0 h<9", HOUSE, 0, 20, 0), 0, 1);
        odds(with("sun 9 h<9", HOUSE, 0, 19, 0), 1, 10);
        odds(with("sun 10 h<9", HOUSE, 0, 19, 0), 0, 1);
        LongNoon x = made(HOUSE, 0, 50, 0);
        days(x, 14);
        x.set(0, 0, 30);
        odds(x, 0, 1);
        x.set(0, 0, 29);
        odds(x, 1, 1);
        x.set(0, 0, 90);
        odds(x, 0, 1);
    }

    private static void oddsOfDayOne() {
        LongNoon x = with("sun 20 m=1;cold 0 h<9", HOUSE, 0, 75, 0);
        odds(x, 0, 1);
        x.day();
        odds(x, 1, 1);
        x.set(0, 0, 65);
        odds(x, 1, 2);
        x.day();
        x.set(0, 0, 75);
        odds(x, 0, 1);
    }

    private static void nextDays() {
        LongNoon x = onDayOne("low 0;high 50", 41);
        x.set(0, 1, 20);
        x.see(0, 3, 15);
        due("1 more on day 3", x.leaks(0), 4);
        x.see(0, 2, 16);
        due("and not on day 2", x.leaks(0), 4);
        x.set(0, 1, 5);
        x.set(0, 2, 2);
        due("1 more on day 3, when it would have been dry", x.dry(0), 4);
        x = onDayOne("low 0;high 99", 40);
        mean(x, 2, 40, 1);
        mean(x, 3, 130, 3);
        mean(x, 4, 45, 1);
        x = with("sun 10 m=3;cold 0 h<9;low 50;high 50", HOUSE, 0, 40, 0);
        x.day();
        for (int i = 0; i < 12; i++) {
            x.book(0);
        }
        due("fine from day 3 on", x.looked(), 2);
        x.day();
        due("from day 2 on then", x.looked(), 1);
    }

    private static void parts() {
        LongNoon x = made(HOUSE, 0, 72, 0);
        int[] odds = {1, 5};
        int[] mean = {77, 1};
        bounds("part of odds", 0, 1, part -> x.odds(0, part), NO, part -> odds[part & 1]);
        bounds("part of mean", 0, 1, part -> made(HOUSE, 0, 67, 0).mean(1, part), NO, part -> mean[part & 1]);
    }

    private static void mean(LongNoon x, int n, long above, long below) {
        due("above the line, n " + n, x.mean(n, 0), above);
        due("below the line, n " + n, x.mean(n, 1), below);
    }

    private static void mean() {
        bounds("n", 1, 60, n -> clocked(WIDE, 50, 0, 0).mean(n, 0), NO, 50);
        due("no houses", on(WIDE).mean(1, 0), NO);
        due("no houses", on(WIDE).mean(60, 1), NO);
        LongNoon x = clocked(WIDE, 50, 0, 1);
        mean(x, 1, 51, 1);
        mean(x, 2, 103, 2);
        mean(x, 3, 52, 1);
        mean(x, 59, 80, 1);
        mean(x, 60, 161, 2);
        mean(clocked(WIDE, 0, 0, 0), 1, 0, 1);
        mean(clocked(WIDE, 0, 0, 0), 60, 0, 1);
        mean(clocked(WIDE, 199, 0, 1), 60, 199, 1);
        mean(clocked(WIDE, 100, 0, -1), 1, 99, 1);
    }

    private static void meanOfAll() {
        LongNoon x = on(WIDE);
        for (int i = 0; i < 6; i++) {
            x.house(HOUSE, 0, i == 5 ? 1 : 0, 0);
        }
        mean(x, 1, 1, 6);
        mean(x, 60, 1, 6);
        x.set(0, 0, 99);
        mean(x, 60, 50, 3);
        x.set(1, 0, 1);
        mean(x, 7, 101, 6);
        x.set(1, 0, 8);
        mean(x, 7, 18, 1);
    }

    private static void book() {
        LongNoon x = new LongNoon();
        due("empty as it is", x.book(-1), 0);
        x = made(HOUSE, 0, 50, 0);
        for (int i = 1; i <= 12; i++) {
            due("a house comes", x.book(0), i);
            due("rows", x.count(3), i);
        }
        due("a thirteenth", x.book(0), FULL);
        due("twelve stay", x.count(3), 12);
        due("empty then", x.book(-1), 0);
        due("rows", x.count(3), 0);
        due("none to look at", x.looked(), NEVER);
        due("from 1 on", x.book(0), 1);
        due("-2 is no house", x.book(-2), NONE);
        due("one beyond is no house", x.book(1), NONE);
        due("one row", x.count(3), 1);
    }

    /** A book of so many rows of one house that is amiss until that heat has come down to 99, by 1 a day. */
    private static LongNoon booked(int heat, int rows) {
        LongNoon x = clocked(WIDE, heat, 0, -1);
        for (int i = 0; i < rows; i++) {
            x.book(0);
        }
        return x;
    }

    private static void bookDays() {
        due("fine on day 1", booked(100, 12).looked(), 0);
        due("fine from day 2 on", booked(101, 12).looked(), 1);
        due("fine from day 11 on", booked(110, 12).looked(), 10);
        due("fine from day 12 on", booked(111, 12).looked(), 11);
        due("fine from day 13 on", booked(112, 12).looked(), NEVER);
        due("fine from day 12 on, 11 rows", booked(111, 11).looked(), NEVER);
        due("fine from day 11 on, 11 rows", booked(110, 11).looked(), 10);
        due("fine from day 1 on, 1 row", booked(100, 1).looked(), 0);
        due("fine from day 2 on, 1 row", booked(101, 1).looked(), NEVER);
        LongNoon x = booked(112, 12);
        due("a thirteenth row does not come", x.book(0), FULL);
        due("nor is it looked at", x.looked(), NEVER);
        x.day();
        due("a day later", x.looked(), 11);
    }

    private static void looked() {
        due("nothing in it", with(STILL, HOUSE, 0, 40, 0).looked(), NEVER);
        LongNoon x = on(WIDE);
        for (int i = 0; i < 6; i++) {
            clock(x, i == 5 ? 43 : 100 + i, 0, i == 5 ? 1 : -1);
        }
        int[] rows = {1, 2, 3, 4};
        for (int house : rows) {
            x.book(house);
        }
        due("each a day too early", x.looked(), NEVER);
        x.book(4);
        due("the fourth is fine on day 5", x.looked(), 4);
        x.book(5);
        due("the first counts", x.looked(), 4);
        x.set(4, 0, 199);
        due("then the next", x.looked(), 5);
        x.book(-1);
        x.book(5);
        due("never amiss", x.looked(), 0);
        x.set(5, 0, 99);
        due("amiss on day 1", x.looked(), NEVER);
        x.set(5, 0, 98);
        due("amiss on day 2 alone", x.looked(), 0);
    }
}
