/** THE TEXT and GROUNDS: each sentence of DOC.md that names a bound of them (promises 6, 7 and 8). */
public final class GroundsBoundsTest extends Due {
    /** 100 bytes: 22 tests that never hold, and at its very end one that always does. */
    private static final String FULL_TEXT = "sun 77 " + "h=9|".repeat(20) + "h=09|h=09|h<9";

    public static void main(String[] args) {
        says("feed: a sign (0 .. 127)", GroundsBoundsTest::signs);
        says("THE TEXT (bytes, 100 at most); FULL", GroundsBoundsTest::textIsFull);
        says("THE TEXT, which is empty then", GroundsBoundsTest::textIsEmptyThen);
        says("CLAUSES, 1 to 10", GroundsBoundsTest::clauses);
        says("with ; between", GroundsBoundsTest::semicolons);
        says("sun, cold, low, high", GroundsBoundsTest::words);
        says("one blank ahead of each part behind the word", GroundsBoundsTest::blanks);
        says("n 1 or 2 digits", GroundsBoundsTest::numbers);
        says("E: T or T|E. T: F or F&T", GroundsBoundsTest::chains);
        says("F: !F, (E), or a TEST", GroundsBoundsTest::singles);
        says("a TEST: a letter, < or = or >, a number (1 or 2 digits)", GroundsBoundsTest::tests);
        says("of a HOUSE h its number, k its KIND, v its number v, m MOON", GroundsBoundsTest::letters);
        says("e HEAT by 10 (cut), s what its STORE holds by 10 (cut)", GroundsBoundsTest::tens);
        says("A ( or ! within 4 others is none", GroundsBoundsTest::nested);
        says("The FAULT: the first byte with which none begins so", GroundsBoundsTest::everyByte);
        says("the end of THE TEXT, if it ends too early", GroundsBoundsTest::endsEarly);
        says("The newest GROUND holds (6 at most); FULL: there are 6", GroundsBoundsTest::sixGrounds);
        says("-10 less the FAULT (the one that held holds)", GroundsBoundsTest::heldHolds);
        says("without one there are no CLAUSES", GroundsBoundsTest::withoutOne);
        says("SUN: in LIGHT the n of all sun whose E holds, in DARK 0", GroundsBoundsTest::sun);
        says("COLD: in DARK the n of all cold whose E holds, in LIGHT 0", GroundsBoundsTest::cold);
        says("low (20 without), high (80 without): the last one's n", GroundsBoundsTest::lowAndHigh);
        end();
    }

    private static void signs() {
        bounds("sign", 0, 127, sign -> new LongNoon().feed(sign), BAD, 1);
        LongNoon x = new LongNoon();
        x.feed(-1);
        x.feed(128);
        due("no sign came", x.count(4), 0);
    }

    private static void textIsFull() {
        LongNoon x = with("low 1", HOUSE, 0, 50, 40);
        for (int i = 0; i < 99; i++) {
            due("sign " + (i + 1), x.feed(FULL_TEXT.charAt(i)), i + 1);
        }
        due("one is lacking", x.count(4), 99);
        due("the last", x.feed('9'), 100);
        due("one too many", x.feed('9'), FULL);
        due("one too many", x.feed('x'), FULL);
        due("a bad one is BAD first", x.feed(128), BAD);
        due("all stay", x.count(4), 100);
        due("without what was refused it is a ground", x.ground(), 1);
        due("which is read to its end", x.of(0, 7), 77);
        due("empty then", x.feed('a'), 1);
    }

    private static void textIsEmptyThen() {
        LongNoon x = new LongNoon();
        due("a ground", ground(x, "low 1"), 0);
        due("empty", x.count(4), 0);
        due("nothing is left for a next one", x.ground(), -10);
        due("a fault", ground(x, "low 1x"), -15);
        due("empty", x.count(4), 0);
        due("the next sign is the first", x.feed('l'), 1);
        feed(x, "ow 2");
        due("a ground", x.ground(), 1);
        due("low", x.told(3), 2);
        // Nothing of a longer text is read behind the end of a shorter one.
        String longer = "sun 12 (h=12&!k<34|m>5);high 67;low 89";
        for (int k = 0; k <= longer.length(); k++) {
            String shorter = longer.substring(0, k);
            x = new LongNoon();
            due("a fault", ground(x, longer + "x"), -10 - longer.length());
            due(shorter, ground(x, shorter), ground(new LongNoon(), shorter));
        }
        due("a ground", ground(x, "low 7"), 1);
        due("low", x.told(3), 7);
    }

    private static void clauses() {
        fault("", 0);
        fine("low 1");
        fine("low 1" + ";low 1".repeat(8));
        fine("low 1" + ";low 1".repeat(9));
        fault("low 1" + ";low 1".repeat(9) + ";", 59);
        fault("low 1" + ";low 1".repeat(10), 59);
        fault("low 1" + ";low 1".repeat(15), 59);
        LongNoon x = with("sun 2 h<9" + ";sun 2 h<9".repeat(9), HOUSE, 0, 50, 40);
        due("all ten count", x.of(0, 7), 20);
        fault("sun 2 h<9" + ";sun 2 h<9".repeat(9) + ";", 99);
        x = with("high 1" + ";low 1".repeat(8) + ";low 2", HOUSE, 0, 50, 40);
        due("the first of ten", x.told(4), 1);
        due("the tenth of ten", x.told(3), 2);
    }

    private static void semicolons() {
        fine("low 1;high 2");
        fault(";low 1", 0);
        fault(";", 0);
        fault("low 1;", 6);
        fault("low 1;;high 2", 6);
        fault("low 1 ;high 2", 5);
        fault("low 1; high 2", 6);
        fault("low 1,high 2", 5);
        fault("low 1high 2", 5);
        fault("sun 1 h=0;", 10);
        fault("sun 1 (h=0;low 1)", 10);
        fine("sun 1 h=0;low 1");
    }

    private static void words() {
        for (String word : new String[] {"sun", "cold", "low", "high"}) {
            for (int k = 0; k <= word.length(); k++) {
                String begun = word.substring(0, k);
                fault(begun, k);
                fault(begun + "x", k);
                fault("low 1;" + begun, 6 + k);
                fault("low 1;" + begun + "x", 6 + k);
            }
            fault(word.toUpperCase(), 0);
            fault(word.substring(0, 1) + word.substring(1).toUpperCase(), 1);
        }
        fine("sun 1 h=0;cold 1 h=0;low 1;high 1");
        fine("high 1;low 1;cold 1 h=0;sun 1 h=0");
    }

    private static void blanks() {
        fault(" sun 1 h=0", 0);
        fault("sun1 h=0", 3);
        fault("sun  1 h=0", 4);
        fault("sun 1h=0", 5);
        fault("sun 1  h=0", 6);
        fault("sun 11h=0", 6);
        fault("sun 1 h =0", 7);
        fault("sun 1 h= 0", 8);
        fault("sun 1 h=0 ", 9);
        fault("sun 1 h=0 |h=1", 9);
        fault("sun 1 h=0| h=1", 10);
        fault("sun 1 h=0& h=1", 10);
        fault("sun 1 ! h=0", 7);
        fault("sun 1 ( h=0)", 7);
        fault("sun 1 (h=0 )", 10);
        fault("sun\t1 h=0", 3);
        fault("cold1 h=0", 4);
        fault("cold  1 h=0", 5);
        fault("cold 1h=0", 6);
        fault("cold 1  h=0", 7);
        fault("low1", 3);
        fault("low  1", 4);
        fault("low 1 ", 5);
        fault("low 1 h=0", 5);
        fault("high1", 4);
        fault("high  1", 5);
        fault("high 1 ", 6);
        fault("high 1 h=0", 6);
        fine("sun 1 h=0");
        fine("cold 1 h=0");
    }

    private static void numbers() {
        for (String word : new String[] {"sun ", "cold ", "low ", "high "}) {
            String behind = "sc".indexOf(word.charAt(0)) >= 0 ? " h<9" : "";
            int at = word.length();
            fault(word + behind, at);
            fine(word + "0" + behind);
            fine(word + "9" + behind);
            fine(word + "00" + behind);
            fine(word + "99" + behind);
            fault(word + "000" + behind, at + 2);
            fault(word + "100" + behind, at + 2);
            fault(word + "/" + behind, at);
            fault(word + ":" + behind, at);
            fault(word + "1/" + behind, at + 1);
            fault(word + "1:" + behind, at + 1);
            fault(word + "-1" + behind, at);
            fault(word + "+1" + behind, at);
        }
        for (int n : new int[] {0, 1, 9, 10, 98, 99}) {
            due("sun " + n, with("sun " + n + " h<9", HOUSE, 0, 50, 40).of(0, 7), n);
            due("low " + n, on("low " + n).told(3), n);
            due("high " + n, on("high " + n).told(4), n);
            LongNoon x = with("cold " + n + " h<9", HOUSE, 0, 50, 40);
            days(x, 14);
            due("cold " + n, x.of(0, 8), n);
        }
        due("sun 07", with("sun 07 h<9", HOUSE, 0, 50, 40).of(0, 7), 7);
        due("low 00", on("low 00").told(3), 0);
        due("h<09", with("sun 7 h<09", HOUSE, 0, 50, 40).of(0, 7), 7);
        due("h<00", with("sun 7 h<00", HOUSE, 0, 50, 40).of(0, 7), 0);
        due("h<10", with("sun 7 h<10", HOUSE, 0, 50, 40).of(0, 7), 7);
        due("h<99", with("sun 7 h<99", HOUSE, 0, 50, 40).of(0, 7), 7);
    }

    /** Whether the rule holds of house 0: T is a test that holds, F one that does not. */
    private static void holds(String rule, boolean want) {
        String text = rule.replace("T", "h=0").replace("F", "h=1");
        due(rule, with("sun 5 " + text, HOUSE, 0, 50, 40).of(0, 7), want ? 5 : 0);
    }

    private static void chains() {
        fault("sun 1 |h=0", 6);
        fault("sun 1 &h=0", 6);
        fault("sun 1 h=0|", 10);
        fault("sun 1 h=0&", 10);
        fault("sun 1 h=0||h=0", 10);
        fault("sun 1 h=0&&h=0", 10);
        fault("sun 1 h=0|&h=0", 10);
        fault("sun 1 h=0&|h=0", 10);
        fault("sun 1 h=0h=0", 9);
        fault("sun 1 (h=0|)", 11);
        fault("sun 1 (&h=0)", 7);
        String[] two = {"F", "T"};
        for (int a = 0; a <= 1; a++) {
            holds(two[a], a == 1);
            for (int b = 0; b <= 1; b++) {
                holds(two[a] + "|" + two[b], a + b > 0);
                holds(two[a] + "&" + two[b], a + b == 2);
                for (int c = 0; c <= 1; c++) {
                    holds(two[a] + "|" + two[b] + "|" + two[c], a + b + c > 0);
                    holds(two[a] + "&" + two[b] + "&" + two[c], a + b + c == 3);
                    holds(two[a] + "|" + two[b] + "&" + two[c], a == 1 || b + c == 2);
                    holds(two[a] + "&" + two[b] + "|" + two[c], a + b == 2 || c == 1);
                    holds("(" + two[a] + "|" + two[b] + ")&" + two[c], a + b > 0 && c == 1);
                    holds(two[a] + "&(" + two[b] + "|" + two[c] + ")", a == 1 && b + c > 0);
                }
            }
        }
    }

    private static void singles() {
        fault("sun 1 !", 7);
        fault("sun 1 !)", 7);
        fault("sun 1 !|h=0", 7);
        fault("sun 1 h!=0", 7);
        fault("sun 1 ()", 7);
        fault("sun 1 (", 7);
        fault("sun 1 (h=0", 10);
        fault("sun 1 (h=0;", 10);
        fault("sun 1 ((h=0)", 12);
        fault("sun 1 h=0)", 9);
        fault("sun 1 (h=0))", 11);
        fault("sun 1 )", 6);
        fault("sun 1 (h=0)h=0", 11);
        fault("sun 1 (h=0)(h=0)", 11);
        fault("sun 1 (h=0)!h=0", 11);
        fault("sun 1 h=0!h=0", 9);
        fault("sun 1 h=0(h=0)", 9);
        holds("!T", false);
        holds("!F", true);
        holds("!!T", true);
        holds("!!F", false);
        holds("(T)", true);
        holds("(F)", false);
        holds("!(T)", false);
        holds("(!T)", false);
        holds("!T|T", true);
        holds("!F&F", false);
        holds("!(F&F)", true);
        holds("!(T|T)", false);
        holds("T&!F", true);
        holds("T&!T|T", true);
    }

    private static void tests() {
        for (char c = 0; c <= 127; c++) {
            String letter = "sun 1 " + c + "=0";
            if ("hkvmes".indexOf(c) >= 0) {
                fine(letter);
            } else {
                fault(letter, "(!".indexOf(c) >= 0 ? 7 : 6);
            }
            String sign = "sun 1 h" + c + "0";
            if ("<=>".indexOf(c) >= 0) {
                fine(sign);
            } else {
                fault(sign, 7);
            }
        }
        fault("sun 1 h=", 8);
        fault("sun 1 h==0", 8);
        fault("sun 1 h<=0", 8);
        fault("sun 1 h=/", 8);
        fault("sun 1 h=:", 8);
        fault("sun 1 h=-1", 8);
        fine("sun 1 h=0");
        fine("sun 1 h=99");
        fault("sun 1 h=100", 10);
        fault("sun 1 h=000", 10);
        fault("sun 1 0=h", 6);
    }

    /** The three signs, with the number one below what the letter is of the last house, that, and one above. */
    private static void threeSigns(char letter, int is, int dayOn, int[]... houses) {
        for (int n = Math.max(0, is - 1); n <= is + 1; n++) {
            for (char sign : "<=>".toCharArray()) {
                String test = "" + letter + sign + n;
                LongNoon x = on("sun 5 " + test + ";cold 5 " + test);
                for (int[] h : houses) {
                    int number = x.house(h[0], h[1], 50, 99);
                    x.set(number, 1, h[3]);
                }
                days(x, dayOn);
                x.set(houses.length - 1, 0, houses[houses.length - 1][2]);
                x.set(houses.length - 1, 1, houses[houses.length - 1][3]);
                boolean holds = sign == '<' ? is < n : sign == '=' ? is == n : is > n;
                due(test + " where it is " + is, x.of(houses.length - 1, dayOn < 14 ? 7 : 8), holds ? 5 : 0);
            }
        }
    }

    private static void letters() {
        int[] plain = {HOUSE, 0, 50, 0};
        threeSigns('h', 0, 0, plain);
        threeSigns('h', 1, 0, plain, plain);
        threeSigns('h', 5, 0, plain, plain, plain, plain, plain, plain);
        for (int kind = 0; kind <= 6; kind++) {
            threeSigns('k', kind, 0, new int[] {kind, 0, 50, 0});
        }
        threeSigns('v', 0, 0, plain);
        threeSigns('v', 9, 0, new int[] {HOUSE, 9, 50, 0});
        threeSigns('m', 0, 0, plain);
        threeSigns('m', 1, 1, plain);
        threeSigns('m', 13, 13, plain);
        threeSigns('m', 14, 14, plain);
        threeSigns('m', 27, 27, plain);
        LongNoon x = with("sun 5 m=0", HOUSE, 0, 50, 0);
        days(x, 28);
        due("moon 0 of day 28", x.of(0, 7), 5);
    }

    private static void tens() {
        for (int heat : new int[] {0, 9, 10, 11, 19, 20, 99, 100, 189, 190, 199}) {
            threeSigns('e', heat / 10, 0, new int[] {HOUSE, 0, heat, 0});
        }
        for (int held : new int[] {0, 9, 10, 11, 19, 20, 98, 99}) {
            threeSigns('s', held / 10, 0, new int[] {HOUSE, 0, 50, held});
        }
        for (int held : new int[] {99, 100, 107, 108}) {
            threeSigns('s', held / 10, 0, new int[] {DEEP, 9, 50, held});
        }
    }

    private static void nested() {
        for (int many = 1; many <= 5; many++) {
            for (int bits = 0; bits < 1 << many; bits++) {
                StringBuilder text = new StringBuilder("sun 5 ");
                for (int i = 0; i < many; i++) {
                    text.append((bits >> i & 1) == 1 ? '!' : '(');
                }
                text.append("h=0").append(")".repeat(many - Integer.bitCount(bits)));
                if (many == 5) {
                    fault(text.toString(), 10);
                } else {
                    due(text.toString(), with(text.toString(), HOUSE, 0, 50, 40).of(0, 7),
                        Integer.bitCount(bits) % 2 == 0 ? 5 : 0);
                }
            }
        }
        fine("sun 1 ((((h=0))))&!!!!h=0|((((h=1))))");
        fine("sun 1 (((!h=0&(h=1)|!h=2)))");
        fine("sun 1 ((((h=0&h=1|h=2))))");
        fine("sun 1 ((((h=0))&!h=1))");
        fault("sun 1 ((((h=0&!h=1))))", 14);
        fault("sun 1 ((((h=0|(h=1)))))", 14);
        fault("sun 1 !!!!(h=0)", 10);
        fault("sun 1 (!(!!h=0))", 10);
        fault("sun 1 h=0|!!!!!h=1", 14);
        fault("sun 1 h=0;cold 1 (((((h=1)))))", 21);
    }

    private static void everyByte() {
        for (char c = 0; c <= 127; c++) {
            fault("" + c, "sclh".indexOf(c) >= 0 ? 1 : 0);
            fault("low 1;" + c, "sclh".indexOf(c) >= 0 ? 7 : 6);
            boolean isDigit = c >= '0' && c <= '9';
            fault("sun " + c, isDigit ? 5 : 4);
            fault("sun 1" + c, isDigit || c == ' ' ? 6 : 5);
            fault("sun 12" + c, c == ' ' ? 7 : 6);
            fault("sun 1 " + c, "hkvmes(!".indexOf(c) >= 0 ? 7 : 6);
            fault("sun 1 h=" + c + "x", isDigit ? 9 : 8);
            fault("sun 1 h=1" + c + "\0", isDigit || "&|;".indexOf(c) >= 0 ? 10 : 9);
            fault("sun 1 h=12" + c + "\0", "&|;".indexOf(c) >= 0 ? 11 : 10);
            fault("sun 1 (h=12" + c + "\0", "&|)".indexOf(c) >= 0 ? 12 : 11);
            fault("sun 1 (h=12)" + c + "\0", "&|;".indexOf(c) >= 0 ? 13 : 12);
            fault("low " + c + "x", isDigit ? 5 : 4);
            fault("low 1" + c + "\0", isDigit || c == ';' ? 6 : 5);
            fault("high 12" + c + "\0", c == ';' ? 8 : 7);
        }
    }

    private static void endsEarly() {
        fault("", 0);
        fault("s", 1);
        fault("sun", 3);
        fault("sun ", 4);
        fault("sun 1", 5);
        fault("sun 12", 6);
        fault("sun 1 ", 6);
        fault("sun 1 h", 7);
        fault("sun 1 h=", 8);
        fault("sun 1 h=1;", 10);
        fault("sun 1 h=1|", 10);
        fault("sun 1 (h=1", 10);
        fault("low", 3);
        fault("low ", 4);
        fault("cold 12 ", 8);
        String cut = FULL_TEXT.substring(0, 99);
        fault(cut, 99);
        fault(cut + "|", 99);
        fault(cut + "x", 99);
        fine(FULL_TEXT);
        fault("low 1;" + "sun 1 " + "h=1|".repeat(22), 100);
        fault("sun 1 (" + "h=1|".repeat(22) + "h=111", 99);
        fault("sun 1 (" + "h=1|".repeat(22) + "h=11|", 100);
    }

    private static void sixGrounds() {
        LongNoon x = new LongNoon();
        for (int i = 0; i < 6; i++) {
            due("how many", x.count(1), i);
            due("ground " + i, ground(x, "low 3" + i), i);
            due("the newest holds", x.told(3), 30 + i);
        }
        due("six", x.count(1), 6);
        due("a seventh", ground(x, "low 36"), FULL);
        due("six stay", x.count(1), 6);
        due("the sixth holds", x.told(3), 35);
        due("the text stays", x.count(4), 6);
        due("and goes on", x.feed('7'), 7);
        due("at fault, and yet first FULL", x.ground(), FULL);
        due("the text stays", x.count(4), 7);
        LongNoon y = new LongNoon();
        for (int i = 0; i < 6; i++) {
            due("what is at fault", ground(y, "x"), -10);
            due("does not count", ground(y, "low 3" + i), i);
        }
        due("empty, and yet first FULL", y.ground(), FULL);
    }

    private static void heldHolds() {
        LongNoon x = with("sun 3 h<9;cold 4 h<9;low 5;high 6", HOUSE, 0, 50, 40);
        String[] wrong = {"", "x", "low 77x", "high 88;", "sun 9 h<9;sun 9 h<9;x", "cold 9 h<9|"};
        int[] faults = {0, 0, 6, 8, 20, 11};
        for (int i = 0; i < wrong.length; i++) {
            due("fault of " + wrong[i], ground(x, wrong[i]), -10 - faults[i]);
            due("one ground", x.count(1), 1);
            due("sun", x.of(0, 7), 3);
            due("low", x.told(3), 5);
            due("high", x.told(4), 6);
        }
        due("the next one's number", ground(x, "high 70"), 1);
        due("nothing of those at fault is in it", x.of(0, 7), 10);
        due("nothing of those at fault is in it", x.told(3), 20);
        due("high", x.told(4), 70);
        due("a fault behind a high", ground(x, "high 88;x"), -18);
        due("the one that held holds", x.told(4), 70);
        due("a ground", ground(x, "low 21"), 2);
        due("nothing of that at fault is in it", x.told(4), 80);
        due("a fault behind a low", ground(x, "low 88;x"), -17);
        due("a ground", ground(x, "high 71"), 3);
        due("nothing of that at fault is in it", x.told(3), 20);
        due("a fault behind sun and cold", ground(x, "sun 9 h<9;cold 9 h<9;x"), -31);
        due("a ground", ground(x, "low 1"), 4);
        due("nothing of that at fault is in it", x.of(0, 7), 10);
        days(x, 14);
        due("nothing of that at fault is in it", x.of(0, 8), 10);
        due("a fault behind sun and cold", ground(x, "sun 9 h<9;cold 9 h<9;x"), -31);
        due("a ground", ground(x, "sun 1 h<9;cold 2 h<9"), 5);
        due("nothing of that at fault is in it", x.of(0, 8), 2);
        days(x, 14);
        due("nothing of that at fault is in it", x.of(0, 7), 1);
    }

    private static void withoutOne() {
        LongNoon x = made(HOUSE, 0, 50, 40);
        due("fault", ground(x, "low 3;high 4;sun 5 h<9;x"), -33);
        due("sun", x.of(0, 7), 10);
        due("cold", x.of(0, 8), 0);
        due("low", x.told(3), 20);
        due("high", x.told(4), 80);
        days(x, 14);
        due("sun", x.of(0, 7), 0);
        due("cold", x.of(0, 8), 10);
    }

    private static void sun() {
        due("no sun clauses at all", with("cold 3 h<9;low 5", HOUSE, 0, 50, 40).of(0, 7), 10);
        due("one that does not hold", with("sun 3 h=9", HOUSE, 0, 50, 40).of(0, 7), 0);
        due("one that holds", with("sun 3 h=0", HOUSE, 0, 50, 40).of(0, 7), 3);
        due("one of 0 that holds", with("sun 0 h=0", HOUSE, 0, 50, 40).of(0, 7), 0);
        due("all that hold, together", with("sun 3 h=0;sun 5 h=9;sun 9 h<9;sun 1 h>9", HOUSE, 0, 50, 40).of(0, 7), 12);
        due("the same one twice", with("sun 9 h=0;low 1;sun 9 h=0", HOUSE, 0, 50, 40).of(0, 7), 18);
        due("the most", with("sun 99 h<9" + ";sun 99 h<9".repeat(8), GLASS, 0, 50, 40).of(0, 9), 2 * 891);
        LongNoon x = with("sun 3 h<9;cold 4 h<9", HOUSE, 0, 50, 40);
        days(x, 13);
        due("the last light", x.of(0, 7), 3);
        x.day();
        due("the first dark", x.of(0, 7), 0);
        days(x, 13);
        due("the last dark", x.of(0, 7), 0);
        x.day();
        due("the next light", x.of(0, 7), 3);
    }

    private static void cold() {
        String[] texts = {"sun 3 h<9;low 5", "cold 3 h=9", "cold 3 h=0", "cold 3 h=0;cold 5 h=9;cold 9 h<9",
            "cold 99 h<9" + ";cold 99 h<9".repeat(7)};
        int[] colds = {10, 0, 3, 12, 792};
        for (int i = 0; i < texts.length; i++) {
            LongNoon x = with(texts[i], HOUSE, 0, 50, 40);
            days(x, 13);
            due("the last light of " + texts[i], x.of(0, 8), 0);
            x.day();
            due("the first dark of " + texts[i], x.of(0, 8), colds[i]);
            due("gain", x.of(0, 9), -colds[i]);
            days(x, 13);
            due("the last dark of " + texts[i], x.of(0, 8), colds[i]);
            x.day();
            due("the next light of " + texts[i], x.of(0, 8), 0);
        }
    }

    private static void lowAndHigh() {
        LongNoon x = on("sun 1 h=0");
        due("low without", x.told(3), 20);
        due("high without", x.told(4), 80);
        x = on("low 1");
        due("low", x.told(3), 1);
        due("high without", x.told(4), 80);
        x = on("high 1");
        due("low without", x.told(3), 20);
        due("high", x.told(4), 1);
        x = on("low 50;high 60;low 0;high 99");
        due("the last low", x.told(3), 0);
        due("the last high", x.told(4), 99);
        x = on("low 99;high 0");
        due("low above high", x.told(3), 99);
        due("high below low", x.told(4), 0);
        ground(x, "sun 1 h=0");
        due("the newest one's alone", x.told(3), 20);
        due("the newest one's alone", x.told(4), 80);
    }
}
