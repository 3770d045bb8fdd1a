/** GAIN, a DAY, and what is asked of DAYS: each sentence of DOC.md that names a bound (promises 9 to 12). */
public final class DaysBoundsTest extends Due {
    public static void main(String[] args) {
        says("HOUSE: SUN less COLD. SAND: as HOUSE", DaysBoundsTest::plainGain);
        says("GLASS: 2 times SUN, less COLD. OVEN: as GLASS, and v", DaysBoundsTest::glassGain);
        says("SHADE: the half (cut) of SUN, less COLD", DaysBoundsTest::shadeGain);
        says("DEEP: as SAND, but the half (cut toward 0)", DaysBoundsTest::deepGain);
        says("TOLD: as SHADE, and its ROW, less 4", DaysBoundsTest::toldGain);
        says("its STORE holds LEAK less (0 at least)", DaysBoundsTest::leak);
        says("HEAT and GAIN, together (0 .. 199, else the bound)", DaysBoundsTest::heatBound);
        says("by how all is ahead of the DAY", DaysBoundsTest::aheadOfTheDay);
        says("if HEAT is above high, what is above goes to the STORE", DaysBoundsTest::aboveHigh);
        says("as much of it as there is ROOM for", DaysBoundsTest::roomFor);
        says("if HEAT is below low, what is lacking comes from the STORE", DaysBoundsTest::belowLow);
        says("as much of it as that holds", DaysBoundsTest::asMuchAsHeld);
        says("else: what was above high takes nothing back", DaysBoundsTest::lowAboveHigh);
        says("above high or below low even then, it is AMISS", DaysBoundsTest::amiss);
        says("A DAY goes for each HOUSE by itself; who is AMISS on it (bits)", DaysBoundsTest::eachByItself);
        says("DAY is 1 more", DaysBoundsTest::oneMore);
        says("STATE: DAY is 9999; DAYS also beyond 9999", DaysBoundsTest::lastDay);
        says("DAYS 1, 2 .. are the next one and so on", DaysBoundsTest::nextDays);
        says("ON n DAYS (0 .. 60)", DaysBoundsTest::on);
        says("on how many of these DAYS it was AMISS", DaysBoundsTest::onHowMany);
        says("on: what 0 .. 2; NONE", DaysBoundsTest::onWhat);
        says("FIRST: the first of DAYS 1 .. 56; -5: none", DaysBoundsTest::first);
        says("NEVER: HOUSES that are AMISS on none of these, as bits", DaysBoundsTest::never);
        end();
    }

    /** GAIN of a house of that kind (v 7) in light, then in dark. */
    private static void gain(int kind, int sun, int inLight, int cold, int inDark) {
        LongNoon x = with("sun " + sun + " h<9;cold " + cold + " h<9;low 0", kind, 7, 50, 0);
        due("gain by sun " + sun, x.of(0, 9), inLight);
        days(x, 14);
        due("gain by cold " + cold, x.of(0, 9), inDark);
    }

    private static void plainGain() {
        for (int kind : new int[] {HOUSE, SAND}) {
            gain(kind, 0, 0, 0, 0);
            gain(kind, 1, 1, 1, -1);
            gain(kind, 99, 99, 99, -99);
        }
    }

    private static void glassGain() {
        gain(GLASS, 0, 0, 0, 0);
        gain(GLASS, 1, 2, 1, -1);
        gain(GLASS, 99, 198, 99, -99);
        gain(OVEN, 0, 7, 0, 7);
        gain(OVEN, 1, 9, 1, 6);
        gain(OVEN, 99, 205, 99, -92);
    }

    private static void shadeGain() {
        int[] halves = {0, 0, 1, 1, 2};
        for (int n = 0; n < halves.length; n++) {
            gain(SHADE, n, halves[n], n, -n);
        }
        gain(SHADE, 99, 49, 99, -99);
    }

    private static void deepGain() {
        int[] halves = {0, 0, 1, 1, 2};
        for (int n = 0; n < halves.length; n++) {
            gain(DEEP, n, halves[n], n, -halves[n]);
        }
        gain(DEEP, 99, 49, 99, -49);
    }

    private static void toldGain() {
        int[] halves = {0, 0, 1, 1, 2};
        for (int n = 0; n < halves.length; n++) {
            gain(TOLD, n, halves[n], n, -n);
        }
        LongNoon x = with("sun 3 h<9;cold 3 h<9;low 0", TOLD, 7, 50, 0);
        x.row(0, 0, 0);
        x.row(0, 2, 9);
        due("the least row in light", x.of(0, 9), 1 - 4);
        days(x, 2);
        due("the most row in light", x.of(0, 9), 1 + 5);
        days(x, 12);
        due("the most row in dark (moon 14 is part 2)", x.of(0, 9), -3 + 5);
        days(x, 2);
        due("the least row in dark (moon 16 is part 0)", x.of(0, 9), -3 - 4);
    }

    /** What a house, at 40 by STILL or by another ground, is behind one day: its heat, its store, whether amiss. */
    private static void day(LongNoon x, int heat, int store, int amiss) {
        String from = "from " + x.of(0, 2) + ", store " + x.of(0, 3) + ", leak " + x.of(0, 5);
        due("amiss " + from, x.day() & 1, amiss);
        due("heat " + from, x.of(0, 2), heat);
        due("store " + from, x.of(0, 3), store);
    }

    private static LongNoon still(int heat, int cap, int store, int leak) {
        LongNoon x = with(STILL, HOUSE, 0, heat, cap);
        x.set(0, 1, store);
        x.set(0, 2, leak);
        return x;
    }

    private static void leak() {
        for (int leak : new int[] {0, 1, 9}) {
            for (int held : new int[] {0, 1, 8, 9, 10, 99}) {
                day(still(40, 99, held, leak), 40, Math.max(0, held - leak), 0);
            }
        }
        day(still(29, 99, 5, 5), 29, 0, 1);
        day(still(29, 99, 6, 5), 30, 0, 0);
        day(still(51, 40, 40, 0), 51, 40, 1);
        day(still(51, 40, 40, 1), 50, 40, 0);
        day(still(52, 40, 40, 1), 51, 40, 1);
    }

    private static void heatBound() {
        String text = "sun 9 h<9;cold 9 h<9;low 0;high 99";
        for (int heat : new int[] {189, 190, 191, 199}) {
            day(with(text, HOUSE, 0, heat, 0), Math.min(199, heat + 9), 0, 1);
        }
        day(with(text, SAND, 9, 190, 99), 99, 100, 0);
        day(with(text, SAND, 9, 195, 99), 99, 100, 0);
        day(with(text, HOUSE, 0, 195, 99), 100, 99, 1);
        for (int heat : new int[] {10, 9, 8, 0}) {
            LongNoon x = with(text, HOUSE, 0, 50, 0);
            days(x, 14);
            x.set(0, 0, heat);
            day(x, Math.max(0, heat - 9), 0, 0);
        }
        LongNoon x = with("sun 9 h<9;cold 9 h<9;low 20;high 99", HOUSE, 0, 50, 99);
        days(x, 14);
        x.set(0, 0, 3);
        x.set(0, 1, 50);
        day(x, 20, 30, 0);
        x = with("sun 99 h<9" + ";sun 99 h<9".repeat(8), GLASS, 0, 0, 99);
        day(x, 100, 99, 1);
    }

    private static void aheadOfTheDay() {
        LongNoon x = with("sun 9 s=1;cold 0 h<9;low 0;high 99", HOUSE, 0, 40, 99);
        x.set(0, 1, 10);
        x.set(0, 2, 1);
        day(x, 49, 9, 0);
        day(x, 49, 8, 0);
        x = with("sun 9 e=4;cold 0 h<9;low 0;high 99", HOUSE, 0, 40, 99);
        day(x, 49, 0, 0);
        day(x, 58, 0, 0);
        day(x, 58, 0, 0);
        x = with("sun 9 m=13;cold 8 m=14;low 0;high 99", HOUSE, 0, 40, 99);
        days(x, 13);
        day(x, 49, 0, 0);
        day(x, 41, 0, 0);
        day(x, 41, 0, 0);
    }

    private static void aboveHigh() {
        day(still(49, 40, 0, 0), 49, 0, 0);
        day(still(50, 40, 0, 0), 50, 0, 0);
        day(still(51, 40, 0, 0), 50, 1, 0);
        day(still(52, 40, 3, 0), 50, 5, 0);
        day(with("sun 1 h<9;low 30;high 50", HOUSE, 0, 48, 40), 49, 0, 0);
        day(with("sun 1 h<9;low 30;high 50", HOUSE, 0, 49, 40), 50, 0, 0);
        day(with("sun 1 h<9;low 30;high 50", HOUSE, 0, 50, 40), 50, 1, 0);
    }

    private static void roomFor() {
        day(still(51, 0, 0, 0), 51, 0, 1);
        day(still(51, 1, 0, 0), 50, 1, 0);
        day(still(59, 10, 0, 0), 50, 9, 0);
        day(still(60, 10, 0, 0), 50, 10, 0);
        day(still(61, 10, 0, 0), 51, 10, 1);
        day(still(51, 10, 9, 0), 50, 10, 0);
        day(still(51, 10, 10, 0), 51, 10, 1);
        day(still(199, 99, 0, 0), 100, 99, 1);
        for (int kind : new int[] {SAND, DEEP}) {
            LongNoon x = with(STILL, kind, 9, 70, 10);
            day(x, 51, 19, 1);
            x = with(STILL, kind, 9, 69, 10);
            day(x, 50, 19, 0);
        }
    }

    private static void belowLow() {
        day(still(31, 40, 5, 0), 31, 5, 0);
        day(still(30, 40, 5, 0), 30, 5, 0);
        day(still(29, 40, 5, 0), 30, 4, 0);
        LongNoon x = with("cold 1 h<9;low 30;high 99", HOUSE, 0, 50, 40);
        days(x, 14);
        x.set(0, 1, 5);
        x.set(0, 0, 32);
        day(x, 31, 5, 0);
        day(x, 30, 5, 0);
        day(x, 30, 4, 0);
        day(x, 30, 3, 0);
    }

    private static void asMuchAsHeld() {
        day(still(29, 40, 0, 0), 29, 0, 1);
        day(still(29, 40, 1, 0), 30, 0, 0);
        day(still(21, 40, 10, 0), 30, 1, 0);
        day(still(20, 40, 10, 0), 30, 0, 0);
        day(still(19, 40, 10, 0), 29, 0, 1);
        day(still(0, 99, 99, 0), 30, 69, 0);
        day(still(29, 40, 1, 1), 29, 0, 1);
    }

    private static void lowAboveHigh() {
        String text = "sun 0 h<9;low 50;high 30";
        LongNoon x = with(text, HOUSE, 0, 31, 40);
        x.set(0, 1, 25);
        day(x, 30, 26, 1);
        day(x, 50, 6, 1);
        day(x, 30, 26, 1);
        x = with(text, HOUSE, 0, 29, 40);
        x.set(0, 1, 25);
        day(x, 50, 4, 1);
        text = "sun 0 h<9;low 40;high 40";
        day(with(text, HOUSE, 0, 39, 40), 39, 0, 1);
        day(with(text, HOUSE, 0, 40, 40), 40, 0, 0);
        day(with(text, HOUSE, 0, 41, 0), 41, 0, 1);
        day(with(text, HOUSE, 0, 41, 1), 40, 1, 0);
    }

    private static void amiss() {
        int[] heats = {0, 29, 30, 31, 49, 50, 51, 199};
        int[] are = {1, 1, 0, 0, 0, 0, 1, 1};
        for (int i = 0; i < heats.length; i++) {
            day(still(heats[i], 0, 0, 0), heats[i], 0, are[i]);
        }
        String widest = "sun 0 h<9;low 0;high 99";
        day(with(widest, HOUSE, 0, 0, 0), 0, 0, 0);
        day(with(widest, HOUSE, 0, 99, 0), 99, 0, 0);
        day(with(widest, HOUSE, 0, 100, 0), 100, 0, 1);
        String without = "sun 0 h<9";
        day(with(without, HOUSE, 0, 19, 0), 19, 0, 1);
        day(with(without, HOUSE, 0, 20, 0), 20, 0, 0);
        day(with(without, HOUSE, 0, 80, 0), 80, 0, 0);
        day(with(without, HOUSE, 0, 81, 0), 81, 0, 1);
    }

    private static void eachByItself() {
        for (int only = 0; only < 6; only++) {
            LongNoon x = on(STILL);
            for (int i = 0; i < 6; i++) {
                x.house(i, 0, i == only ? 51 : 50, 0);
            }
            due("the one that is amiss", x.day(), 1 << only);
            due("its bit in what is fine", x.never(), 63 - (1 << only));
        }
        LongNoon x = on(STILL);
        due("nobody", x.day(), 0);
        for (int i = 0; i < 6; i++) {
            x.house(HOUSE, 0, 20, 99);
            x.set(i, 1, i % 2 == 0 ? 99 : 9);
        }
        due("none gives to another", x.day(), 2 + 8 + 32);
        due("store of the first", x.of(0, 3), 89);
        due("store of the second", x.of(1, 3), 0);
        due("heat of the second", x.of(1, 2), 29);
        due("all", on6(29).day(), 63);
        due("none", on6(30).day(), 0);
    }

    private static LongNoon on6(int heat) {
        LongNoon x = on(STILL);
        for (int i = 0; i < 6; i++) {
            x.house(HOUSE, 0, heat, 0);
        }
        return x;
    }

    private static void oneMore() {
        LongNoon x = made(HOUSE, 0, 50, 0);
        for (int n = 0; n < 30; n++) {
            due("day", x.told(0), n);
            x.day();
        }
    }

    private static void lastDay() {
        LongNoon x = new LongNoon();
        days(x, 9998);
        due("the day", x.told(0), 9998);
        due("the last", x.day(), 0);
        due("the day", x.told(0), 9999);
        due("no more", x.day(), STATE);
        due("the day", x.told(0), 9999);
        ground(x, WIDE);
        clock(x, 40, 0, 1);
        due("no more", x.day(), STATE);
        due("heat stays", x.of(0, 2), 40);
        due("heat beyond", x.on(0, 60, 0), 100);
        due("first beyond", x.first(0), NEVER);
        x.set(0, 0, 44);
        due("first beyond", x.first(0), 56);
    }

    private static void nextDays() {
        LongNoon x = onDayOne("low 0;high 50", 41);
        due("behind day 2", x.on(0, 2, 0), 41);
        due("behind day 3", x.on(0, 3, 0), 50);
        due("what was above", x.on(0, 3, 1), 1);
        due("behind day 30", x.on(0, 30, 0), 50);
        due("behind day 31, 28 later", x.on(0, 31, 1), 11);
        due("fine all the same", x.first(0), NEVER);
        x.set(0, 0, 141);
        due("on day 3 there is not room for all", x.first(0), 3);
        due("nor for ever", x.never(), 0);
        x.day();
        due("on day 2 then", x.first(0), 2);
        x.day();
        due("on day 1 then", x.first(0), 1);
        due("that day", x.day(), 1);
    }

    private static void on() {
        for (int what = 0; what <= 2; what++) {
            int asked = what;
            LongNoon x = clocked(WIDE, 50, 99, 1);
            x.set(0, 1, 61);
            x.set(0, 2, 1);
            // From day 50 on what is above 99 goes to the store, and leaks; the store is never full.
            bounds("n", 0, 60, n -> x.on(0, n, asked), BAD,
                n -> asked == 0 ? Math.min(99, 50 + n) : asked == 1 ? 61 - Math.min(49, n) : 0);
        }
        LongNoon x = clocked(WIDE, 99, 0, 1);
        for (int n : new int[] {0, 1, 59, 60}) {
            due("heat on " + n, x.on(0, n, 0), 99 + n);
            due("amiss until " + n, x.on(0, n, 2), n);
        }
    }

    private static void onHowMany() {
        for (int first : new int[] {1, 2, 59, 60}) {
            LongNoon x = clocked(WIDE, 100 - first, 0, 1);
            due("the day ahead of " + first, x.on(0, first - 1, 2), 0);
            due("day " + first, x.on(0, first, 2), 1);
            due("all", x.on(0, 60, 2), 61 - first);
        }
        LongNoon x = clocked(WIDE, 39, 0, 1);
        due("none of 60", x.on(0, 60, 2), 0);
        x = clocked(WIDE, 120, 0, -1);
        due("20 until it has cooled down", x.on(0, 60, 2), 20);
        due("now does not count", x.on(0, 0, 2), 0);
    }

    private static void onWhat() {
        LongNoon x = clocked(WIDE, 100, 0, 1);
        int[] all = {102, 0, 2};
        bounds("what", 0, 2, what -> x.on(0, 2, what), NONE, what -> all[what]);
    }

    private static void first() {
        int[] heats = {199, 99, 98, 45, 44, 43, 0};
        int[] firsts = {1, 1, 2, 55, 56, NEVER, NEVER};
        for (int i = 0; i < heats.length; i++) {
            LongNoon x = clocked(WIDE, heats[i], 0, 1);
            due("from " + heats[i], x.first(0), firsts[i]);
            x.day();
            x.set(0, 0, heats[i]);
            due("a day later from " + heats[i], x.first(0), firsts[i]);
        }
    }

    private static void never() {
        due("no houses", on(WIDE).never(), 0);
        LongNoon x = on(WIDE);
        int[] heats = {43, 44, 99, 0, 199, 43};
        for (int heat : heats) {
            clock(x, heat, 0, 1);
        }
        due("bits", x.never(), 1 + 8 + 32);
        x.set(0, 0, 44);
        x.set(1, 0, 43);
        due("bits", x.never(), 2 + 8 + 32);
        for (int i = 0; i < 6; i++) {
            x.set(i, 0, 43);
        }
        due("all", x.never(), 63);
        for (int i = 0; i < 6; i++) {
            x.set(i, 0, 44);
        }
        due("none", x.never(), 0);
    }
}
