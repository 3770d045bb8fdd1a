/**
 * Runs of 512 calls, made up from fixed seeds, on a LongNoon and on a PlainNoon: each answer must be the same.
 */
public final class PlainRunsTest {
    private static final int RUNS = 400;
    private static final int CALLS = 512;

    /** Each call with what its numbers are: see draw(). */
    private static final String[][] CALLED = {
        {"house", "k9hc"}, {"house", "k9hc"}, {"of", "H9"}, {"of", "H9"}, {"set", "H0h"}, {"set", "H1c"},
        {"set", "H29"}, {"row", "H49"}, {"row", "H49"}, {"feed", "x"}, {"told", "5"}, {"day", ""}, {"day", ""},
        {"day", ""}, {"on", "Hn3"}, {"first", "H"}, {"never", ""}, {"cap", "H"}, {"full", "H"}, {"heat", "H1"},
        {"big", "1"}, {"gives", "HHc"}, {"turn", "H1"}, {"alike", "HH"}, {"see", "Hns"}, {"leaks", "H"},
        {"dry", "H"}, {"odds", "H1"}, {"mean", "n1"}, {"book", "H"}, {"book", "H"}, {"looked", ""},
        {"judge", "t2"}, {"image", ""}, {"undo", ""}, {"act", "H2x"}, {"trace", "i"}, {"taken", "Hk"},
        {"count", "6"}, {"tape", "t4n"}, {"tape", "t1n"}, {"item", "tnL"}, {"item", "tnL"}, {"read", "tn"},
        {"shift", "tntnn"}
    };

    private static long seed;

    private static int random(int below) {
        seed = seed * 6364136223846793005L + 1442695040888963407L;
        return (int) Math.floorMod(seed >>> 33, (long) below);
    }

    private static long draw(char what) {
        int odd = random(24);
        if (odd == 0) {
            return -1;
        }
        if (odd == 1) {
            long[] edges = {Integer.MIN_VALUE, Integer.MAX_VALUE, -2, -1, 0, 6, 7, 10, 12, 30, 31, 60, 61, 99, 100,
                128, 199, 200, 109};
            return edges[random(edges.length)];
        }
        return switch (what) {
            case 'k' -> random(7);
            case 'h' -> random(3) == 0 ? random(200) : 20 + random(61);
            case 'c' -> random(100);
            case 's' -> random(3) == 0 ? 0 : random(60);
            case 'H' -> random(6);
            case 't' -> random(3);
            case 'n' -> random(3) == 0 ? random(61) : random(8);
            case 'x' -> random(128);
            case 'i' -> random(14);
            case 'L' -> random(2) == 0 ? (long) random(1 << 30) * random(1 << 30) - random(1 << 30) : random(100);
            default -> what == '0' ? 0 : random(what - '0' + 1);
        };
    }

    private static String rule(int depth) {
        int shape = random(depth >= 5 ? 4 : 8);
        if (shape < 4) {
            String letters = "hkvmesmes";
            char letter = letters.charAt(random(letters.length()));
            int most = letter == 'm' ? 28 : letter == 'e' ? 12 : letter == 'h' ? 6 : 10;
            return "" + letter + "<=>".charAt(random(3)) + random(most);
        }
        if (shape == 4) {
            return rule(depth) + "&" + rule(depth + 1);
        }
        if (shape == 5) {
            return rule(depth) + "|" + rule(depth + 1);
        }
        return shape == 6 ? "!" + rule(depth + 1) : "(" + rule(depth + 1) + ")";
    }

    private static String clause() {
        switch (random(6)) {
            case 0: return "low " + random(45);
            case 1: return "high " + (50 + random(50));
            case 2: case 3: return "sun " + random(random(4) == 0 ? 100 : 20) + " " + rule(0);
            default: return "cold " + random(random(4) == 0 ? 100 : 20) + " " + rule(0);
        }
    }

    static String text() {
        StringBuilder text = new StringBuilder(clause());
        for (int n = random(random(3) == 0 ? 12 : 5); n > 0; n--) {
            text.append(';').append(clause());
        }
        for (int n = random(3) - 1; n > 0 && text.length() > 0; n--) {
            String signs = "sun cold low high ;0123456789()!&|hkvmes<=>\u0000";
            char sign = signs.charAt(random(signs.length()));
            int at = random(text.length());
            switch (random(3)) {
                case 0: text.insert(at, sign); break;
                case 1: text.deleteCharAt(at); break;
                default: text.setCharAt(at, sign); break;
            }
        }
        return text.toString();
    }

    private static void ground(Pair p) {
        String text = text();
        p.feed(text.substring(0, Math.max(0, Math.min(text.length(), CALLS - 1 - p.calls()))));
        p.call("ground");
    }

    /** Tells a tape the heat of each house, one of them perhaps otherwise, and has it judged. */
    private static void tellHeat(Pair p) {
        long tape = random(6);
        long from = random(4);
        p.call("tape", tape, 1L, from + random(8));
        int other = random(12);
        for (int h = 0; h < 6; h++) {
            long heat = p.call("of", (long) h, 2L);
            p.call("item", tape, from + h, heat + (h == other ? 1 : 0));
        }
        p.call("judge", tape, from);
        p.call("shift", tape, from, tape, draw('4'), draw('4'));
        p.call("read", tape, draw('9'));
        p.call("judge", tape, draw('4'));
    }

    /** Tells what the store of a house will hold if it leaks otherwise, and asks how it leaks. */
    private static void tellSeen(Pair p) {
        long house = random(6);
        long was = p.call("set", house, 2L, (long) random(10));
        for (int n = random(4); n >= 0; n--) {
            long day = random(31);
            long holds = p.call("on", house, day, 1L);
            p.call("see", random(5) == 0 ? draw('H') : house, day, holds);
        }
        p.call("leaks", house);
        p.call("set", house, 2L, was);
        p.call("leaks", house);
        if (random(3) == 0) {
            p.call("see", -1L, 0L, 0L);
        }
    }

    /** Whether all answers of the run are the same. */
    private static boolean run(int number) {
        seed = number;
        random(2);
        Pair p = new Pair();
        if (number % 5 != 0) {
            ground(p);
        }
        for (int n = 0; n < number % 7; n++) {
            p.call("house", draw('k'), draw('9'), draw('h'), draw('c'));
            p.call("set", (long) n, 1L, draw('c'));
        }
        while (p.calls() < CALLS && !p.differs()) {
            if (random(60) == 0) {
                ground(p);
                continue;
            }
            if (random(40) == 0) {
                tellHeat(p);
                continue;
            }
            if (random(40) == 0) {
                tellSeen(p);
                continue;
            }
            String[] call = CALLED[random(CALLED.length)];
            // Empties too often what only fills slowly, and goes back.
            if (call[0].equals("undo") && random(4) != 0) {
                continue;
            }
            long[] with = new long[call[1].length()];
            for (int i = 0; i < with.length; i++) {
                with[i] = draw(call[1].charAt(i));
            }
            p.call(call[0], with);
        }
        return !p.differs();
    }

    public static void main(String[] args) {
        int runs = args.length > 0 ? Integer.parseInt(args[0]) : RUNS;
        boolean same = true;
        for (int n = 0; n < runs && same; n++) {
            same = run(n);
        }
        System.out.println(same ? runs + " runs: every answer is as PlainNoon's" : "PlainNoon answers otherwise");
        if (!same) {
            System.exit(1);
        }
    }
}
