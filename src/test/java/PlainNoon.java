import java.lang.reflect.Array;
import java.util.ArrayList;
import java.util.List;
import java.util.regex.Matcher;
import java.util.regex.Pattern;

/**
 * What DOC.md asks, written once more, as plainly as the library allows and by other ways than LongNoon's:
 * texts are checked by one regular expression and evaluated as they stand, acts are Java's own classes,
 * tapes Java's own arrays, and whatever is asked runs on copies.
 */
public final class PlainNoon {
    static final long NO = Long.MIN_VALUE;

    static final class Home {
        int n, kind, v, heat, store, cap, leak;
        int[] row = {4, 4, 4, 4};

        Home copy() {
            Home h = new Home();
            h.n = n;
            h.kind = kind;
            h.v = v;
            h.heat = heat;
            h.store = store;
            h.cap = cap;
            h.leak = leak;
            h.row = row.clone();
            return h;
        }

        int room() {
            return kind == 2 || kind == 5 ? cap + v : cap;
        }
    }

    static final class All {
        List<Home> homes = new ArrayList<>();
        int day;
        String ground = "";
        List<int[]> seen = new ArrayList<>();
        List<Integer> book = new ArrayList<>();

        All copy() {
            All a = new All();
            for (Home h : homes) {
                a.homes.add(h.copy());
            }
            a.day = day;
            a.ground = ground;
            a.seen.addAll(seen);
            a.book.addAll(book);
            return a;
        }
    }

    private All all = new All();
    private All image = null;
    private String text = "";
    private int grounds = 0;
    private List<Integer> trace = new ArrayList<>();
    private final Object[] tapes = new Object[6];

    // ---- texts

    private static final Pattern GROUND = Pattern.compile(groundPattern());

    private static String groundPattern() {
        String clause = "(?:(?:sun|cold) [0-9]{1,2} " + either(0) + "|(?:low|high) [0-9]{1,2})";
        return clause + "(?:;" + clause + "){0,9}";
    }

    private static String either(int depth) {
        String single = "[hkvmes][<=>][0-9]{1,2}";
        if (depth < 4) {
            single = "(?:" + single + "|!" + singleOnly(depth + 1) + "|\\(" + either(depth + 1) + "\\))";
        }
        return single + "(?:[&|]" + single + ")*";
    }

    private static String singleOnly(int depth) {
        String single = "[hkvmes][<=>][0-9]{1,2}";
        if (depth < 4) {
            single = "(?:" + single + "|!" + singleOnly(depth + 1) + "|\\(" + either(depth + 1) + "\\))";
        }
        return single;
    }

    /** The first place up to which no ground begins so; -1, if the text is one. */
    static int fault(String text) {
        for (int p = 1; p <= text.length(); p++) {
            Matcher m = GROUND.matcher(text.substring(0, p));
            if (!m.matches() && !m.hitEnd()) {
                return p - 1;
            }
        }
        return GROUND.matcher(text).matches() ? -1 : text.length();
    }

    private static int split(String e, char sign) {
        int open = 0;
        for (int i = 0; i < e.length(); i++) {
            char c = e.charAt(i);
            if (c == '(') {
                open++;
            } else if (c == ')') {
                open--;
            } else if (c == sign && open == 0) {
                return i;
            }
        }
        return -1;
    }

    private static boolean holds(String e, Home h, int moon, int held) {
        int at = split(e, '|');
        if (at >= 0) {
            return holds(e.substring(0, at), h, moon, held) | holds(e.substring(at + 1), h, moon, held);
        }
        at = split(e, '&');
        if (at >= 0) {
            return holds(e.substring(0, at), h, moon, held) & holds(e.substring(at + 1), h, moon, held);
        }
        if (e.charAt(0) == '!') {
            return !holds(e.substring(1), h, moon, held);
        }
        if (e.charAt(0) == '(') {
            return holds(e.substring(1, e.length() - 1), h, moon, held);
        }
        int have = switch (e.charAt(0)) {
            case 'h' -> h.n;
            case 'k' -> h.kind;
            case 'v' -> h.v;
            case 'm' -> moon;
            case 'e' -> h.heat / 10;
            default -> held / 10;
        };
        int want = Integer.parseInt(e.substring(2));
        return e.charAt(1) == '<' ? have < want : e.charAt(1) == '=' ? have == want : have > want;
    }

    private static int total(String ground, String word, Home h, int moon, int held) {
        int sum = 0;
        int clauses = 0;
        for (String clause : ground.isEmpty() ? new String[0] : ground.split(";")) {
            String[] part = clause.split(" ");
            if (part[0].equals(word)) {
                clauses++;
                if (holds(part[2], h, moon, held)) {
                    sum += Integer.parseInt(part[1]);
                }
            }
        }
        return clauses == 0 ? 10 : sum;
    }

    private static int limit(String ground, String word, int without) {
        int n = without;
        for (String clause : ground.isEmpty() ? new String[0] : ground.split(";")) {
            String[] part = clause.split(" ");
            if (part[0].equals(word)) {
                n = Integer.parseInt(part[1]);
            }
        }
        return n;
    }

    // ---- days

    private int sun(Home h, int day, int held) {
        return day % 28 < 14 ? total(all.ground, "sun", h, day % 28, held) : 0;
    }

    private int cold(Home h, int day, int held) {
        return day % 28 < 14 ? 0 : total(all.ground, "cold", h, day % 28, held);
    }

    private int gain(Home h, int day, int held, int dust) {
        int sun = Math.max(0, sun(h, day, held) - dust);
        int cold = cold(h, day, held);
        int plain = sun - cold;
        int glass = 2 * sun - cold;
        int shade = sun / 2 - cold;
        return switch (h.kind) {
            case 0, 2 -> plain;
            case 1 -> glass;
            case 3 -> shade;
            case 4 -> glass + h.v;
            case 5 -> plain < 0 ? -(-plain / 2) : plain / 2;
            default -> shade + h.row[day % 28 % 4] - 4;
        };
    }

    /** Warms a house by a gain, with a store of its own (holds, room); what that holds then, and whether amiss. */
    private int[] warm(Home h, int gain, int holds, int room) {
        int low = limit(all.ground, "low", 20);
        int high = limit(all.ground, "high", 80);
        h.heat += gain;
        if (h.heat < 0) {
            h.heat = 0;
        }
        if (h.heat > 199) {
            h.heat = 199;
        }
        if (h.heat > high) {
            while (h.heat > high && holds < room) {
                h.heat--;
                holds++;
            }
        } else {
            while (h.heat < low && holds > 0) {
                h.heat++;
                holds--;
            }
        }
        return new int[] {holds, h.heat > high || h.heat < low ? 1 : 0};
    }

    private boolean pass(Home h, int day, int dust) {
        int gain = gain(h, day, h.store, dust);
        int[] got = warm(h, gain, h.store > h.leak ? h.store - h.leak : 0, h.room());
        h.store = got[0];
        return got[1] == 1;
    }

    /** Whether it is amiss, day by day; it becomes what it is behind them. */
    private boolean[] run(Home h, int days) {
        boolean[] amiss = new boolean[days];
        for (int d = 0; d < days; d++) {
            amiss[d] = pass(h, all.day + d, 0);
        }
        return amiss;
    }

    private static int many(boolean[] amiss) {
        int n = 0;
        for (boolean b : amiss) {
            n += b ? 1 : 0;
        }
        return n;
    }

    private int amissOf(Home h, int days) {
        return many(run(h.copy(), days));
    }

    private boolean is(int house) {
        return house >= 0 && house < all.homes.size();
    }

    private static long part(long above, long below, int part) {
        for (long d = below; d > 1; d--) {
            if (above % d == 0 && below % d == 0) {
                return part == 0 ? above / d : below / d;
            }
        }
        return part == 0 ? above : below;
    }

    // ---- the calls

    public int house(int kind, int v, int heat, int cap) {
        if (kind < 0 || kind > 6) {
            return -1;
        }
        if (v < 0 || v > 9 || heat < 0 || heat > 199 || cap < 0 || cap > 99) {
            return -2;
        }
        if (all.homes.size() == 6) {
            return -4;
        }
        Home h = new Home();
        h.n = all.homes.size();
        h.kind = kind;
        h.v = v;
        h.heat = heat;
        h.cap = cap;
        all.homes.add(h);
        return h.n;
    }

    public int of(int house, int what) {
        if (!is(house) || what < 0 || what > 9) {
            return -10001;
        }
        Home h = all.homes.get(house);
        int[] answers = {h.kind, h.v, h.heat, h.store, h.cap, h.leak, h.room(), sun(h, all.day, h.store),
            cold(h, all.day, h.store), gain(h, all.day, h.store, 0)};
        return answers[what];
    }

    public int set(int house, int what, int n) {
        if (!is(house) || what < 0 || what > 2) {
            return -1;
        }
        Home h = all.homes.get(house);
        int most = new int[] {199, h.room(), 9}[what];
        if (n < 0 || n > most) {
            return -2;
        }
        int was = new int[] {h.heat, h.store, h.leak}[what];
        if (what == 0) {
            h.heat = n;
        }
        if (what == 1) {
            h.store = n;
        }
        if (what == 2) {
            h.leak = n;
        }
        return was;
    }

    public int row(int house, int part, int n) {
        if (!is(house) || part < 0 || part > 3) {
            return -1;
        }
        if (n < 0 || n > 9) {
            return -2;
        }
        Home h = all.homes.get(house);
        if (h.kind != 6) {
            return -3;
        }
        int was = h.row[part];
        h.row[part] = n;
        return was;
    }

    public int feed(int sign) {
        if (sign < 0 || sign > 127) {
            return -2;
        }
        if (text.length() == 100) {
            return -4;
        }
        text += (char) sign;
        return text.length();
    }

    public int ground() {
        if (grounds == 6) {
            return -4;
        }
        int fault = fault(text);
        if (fault < 0) {
            all.ground = text;
            grounds++;
        }
        text = "";
        return fault < 0 ? grounds - 1 : -10 - fault;
    }

    public int told(int what) {
        return switch (what) {
            case 0 -> all.day;
            case 1 -> all.day % 28;
            case 2 -> all.day % 28 < 14 ? 1 : 0;
            case 3 -> limit(all.ground, "low", 20);
            case 4 -> limit(all.ground, "high", 80);
            default -> -1;
        };
    }

    public int day() {
        if (all.day == 9999) {
            return -3;
        }
        int bits = 0;
        for (Home h : all.homes) {
            bits |= pass(h, all.day, 0) ? 1 << h.n : 0;
        }
        all.day++;
        return bits;
    }

    public int on(int house, int n, int what) {
        if (!is(house) || what < 0 || what > 2) {
            return -1;
        }
        if (n < 0 || n > 60) {
            return -2;
        }
        Home h = all.homes.get(house).copy();
        int amiss = many(run(h, n));
        return new int[] {h.heat, h.store, amiss}[what];
    }

    private int firstOf(Home h) {
        boolean[] amiss = run(h.copy(), 56);
        for (int d = 0; d < 56; d++) {
            if (amiss[d]) {
                return d + 1;
            }
        }
        return -5;
    }

    public int first(int house) {
        return is(house) ? firstOf(all.homes.get(house)) : -1;
    }

    public int never() {
        int bits = 0;
        for (Home h : all.homes) {
            bits |= amissOf(h, 56) == 0 ? 1 << h.n : 0;
        }
        return bits;
    }

    public int cap(int house) {
        if (!is(house)) {
            return -1;
        }
        for (int c = 0; c < 100; c++) {
            Home h = all.homes.get(house).copy();
            h.cap = c;
            if (h.store > h.room()) {
                h.store = h.room();
            }
            if (firstOf(h) == -5) {
                return c;
            }
        }
        return -5;
    }

    public int full(int house) {
        if (!is(house)) {
            return -1;
        }
        Home h = all.homes.get(house).copy();
        for (h.store = 0; h.store <= h.room(); h.store++) {
            if (firstOf(h) == -5) {
                return h.store;
            }
        }
        return -5;
    }

    public int heat(int house, int what) {
        if (!is(house) || what < 0 || what > 1) {
            return -1;
        }
        int[] days = new int[20];
        for (int i = 0; i < 20; i++) {
            Home h = all.homes.get(house).copy();
            h.heat = 10 * i;
            days[i] = amissOf(h, 56);
        }
        int best = least(days);
        return what == 0 ? 10 * best : days[best];
    }

    private static int least(int[] days) {
        int best = days.length - 1;
        for (int i = days.length - 1; i >= 0; i--) {
            best = days[i] <= days[best] ? i : best;
        }
        return best;
    }

    public int big(int what) {
        if (what < 0 || what > 1) {
            return -1;
        }
        int holds = 0;
        int room = 0;
        int leak = 0;
        List<Home> homes = all.copy().homes;
        for (Home h : homes) {
            holds += h.store;
            room += h.room();
            leak += h.leak;
        }
        int days = 0;
        for (int d = 0; d < 28; d++) {
            int[] gains = new int[homes.size()];
            for (Home h : homes) {
                gains[h.n] = gain(h, all.day + d, holds, 0);
            }
            holds = Math.max(0, holds - leak);
            int amiss = 0;
            for (Home h : homes) {
                int[] got = warm(h, gains[h.n], holds, room);
                holds = got[0];
                amiss += got[1];
            }
            days += amiss > 0 ? 1 : 0;
        }
        return what == 0 ? days : holds;
    }

    public int gives(int one, int other, int n) {
        if (!is(one) || !is(other)) {
            return -1001;
        }
        if (one == other || n < 0 || n > 99) {
            return -1002;
        }
        Home a = all.homes.get(one).copy();
        Home b = all.homes.get(other).copy();
        int before = amissOf(a, 56) + amissOf(b, 56);
        for (int k = 0; k < n && a.store > 0 && b.store < b.room(); k++) {
            a.store--;
            b.store++;
        }
        return before - amissOf(a, 56) - amissOf(b, 56);
    }

    public int turn(int house, int what) {
        if (!is(house) || what < 0 || what > 1) {
            return -1;
        }
        int[] days = new int[28];
        for (int n = 1; n <= 28; n++) {
            Home h = all.homes.get(house).copy();
            for (int d = 1; d <= 56; d++) {
                boolean away = d == n || d == n + 1 || d == n + 2 || d == n + 3 || d == n + 4;
                days[n - 1] += pass(h, all.day + d - 1, away ? 99999 : 0) ? 1 : 0;
            }
        }
        int best = least(days);
        return what == 0 ? best + 1 : days[best];
    }

    public int alike(int one, int other) {
        if (!is(one) || !is(other)) {
            return -1;
        }
        if (one == other) {
            return -2;
        }
        boolean[] a = run(all.homes.get(one).copy(), 28);
        boolean[] b = run(all.homes.get(other).copy(), 28);
        int n = 0;
        for (int d = 0; d < 28; d++) {
            n += a[d] == b[d] ? 1 : 0;
        }
        return n;
    }

    public int see(int house, int n, int holds) {
        if (house == -1) {
            all.seen.clear();
            return 0;
        }
        if (!is(house)) {
            return -1;
        }
        if (n < 0 || n > 30 || holds < 0 || holds > 199) {
            return -2;
        }
        if (all.seen.size() == 8) {
            return -4;
        }
        all.seen.add(new int[] {house, n, holds});
        return all.seen.size();
    }

    public int leaks(int house) {
        if (!is(house)) {
            return -1;
        }
        int bits = 0;
        for (int leak = 0; leak < 10; leak++) {
            boolean so = true;
            for (int[] seen : all.seen) {
                Home h = all.homes.get(house).copy();
                h.leak = leak;
                run(h, seen[1]);
                so = so && (seen[0] != house || seen[2] == h.store);
            }
            bits |= so ? 1 << leak : 0;
        }
        return bits;
    }

    public int dry(int house) {
        if (!is(house)) {
            return -1;
        }
        for (int d = 1; d <= 60; d++) {
            if (on(house, d, 1) == 0) {
                return d;
            }
        }
        return -5;
    }

    public long odds(int house, int part) {
        if (!is(house) || part < 0 || part > 1) {
            return NO;
        }
        int amiss = 0;
        for (int dust = 0; dust < 10; dust++) {
            amiss += pass(all.homes.get(house).copy(), all.day, dust) ? 1 : 0;
        }
        return part(amiss, 10, part);
    }

    public long mean(int n, int part) {
        if (n < 1 || n > 60 || part < 0 || part > 1 || all.homes.isEmpty()) {
            return NO;
        }
        long sum = 0;
        for (int d = 1; d <= n; d++) {
            for (Home h : all.homes) {
                sum += on(h.n, d, 0);
            }
        }
        return part(sum, (long) n * all.homes.size(), part);
    }

    public int book(int house) {
        if (house == -1) {
            all.book.clear();
            return 0;
        }
        if (!is(house)) {
            return -1;
        }
        if (all.book.size() == 12) {
            return -4;
        }
        all.book.add(house);
        return all.book.size();
    }

    public int looked() {
        for (int i = 0; i < all.book.size(); i++) {
            if (!run(all.homes.get(all.book.get(i)).copy(), i + 1)[i]) {
                return i;
            }
        }
        return -5;
    }

    public int judge(int tape, int i) {
        if (tape < 0 || tape > 5) {
            return -1;
        }
        if (tapes[tape] != null && !(tapes[tape] instanceof short[])) {
            return -12;
        }
        if (all.homes.isEmpty()) {
            return -5;
        }
        if (tapes[tape] == null || i < 0) {
            return 100;
        }
        short[] row = (short[]) tapes[tape];
        for (int k = 0; k < all.homes.size(); k++) {
            if ((long) i + k >= row.length) {
                return 100 + k;
            }
            if (row[i + k] != all.homes.get(k).heat) {
                return k;
            }
        }
        return -5;
    }

    public int image() {
        image = all.copy();
        return all.homes.size();
    }

    public int undo() {
        if (image == null) {
            return -3;
        }
        all = image.copy();
        return all.homes.size();
    }

    // ---- acts, by Java's own rules for bodies

    private static class House {
        final int i;
        final int v;
        final List<Integer> trace;

        House(Home h, List<Integer> trace) {
            i = h.n;
            v = h.v;
            this.trace = trace;
        }

        int warms(int x) {
            trace.add(10);
            return x + i;
        }

        int stores(int x) {
            trace.add(11);
            return warms(x) - v;
        }

        int tells(int x) {
            trace.add(12);
            return stores(x) * 2;
        }
    }

    private static class Glass extends House {
        Glass(Home h, List<Integer> trace) {
            super(h, trace);
        }

        @Override
        int stores(int x) {
            trace.add(20);
            return super.stores(x) ^ 6;
        }
    }

    private static class Sand extends House {
        Sand(Home h, List<Integer> trace) {
            super(h, trace);
        }

        @Override
        int warms(int x) {
            trace.add(30);
            return super.warms(x * 3);
        }
    }

    private static class Shade extends House {
        Shade(Home h, List<Integer> trace) {
            super(h, trace);
        }

        @Override
        int tells(int x) {
            trace.add(40);
            return super.tells(x) + stores(1);
        }
    }

    private static class Oven extends Glass {
        Oven(Home h, List<Integer> trace) {
            super(h, trace);
        }

        @Override
        int warms(int x) {
            trace.add(50);
            return -super.warms(x);
        }

        @Override
        int stores(int x) {
            trace.add(51);
            return super.stores(x + 1);
        }
    }

    private static class Deep extends Sand {
        Deep(Home h, List<Integer> trace) {
            super(h, trace);
        }

        @Override
        int tells(int x) {
            trace.add(60);
            return super.tells(x - i);
        }
    }

    private static class Told extends Shade {
        Told(Home h, List<Integer> trace) {
            super(h, trace);
        }

        @Override
        int stores(int x) {
            trace.add(70);
            return super.stores(x) + super.warms(2);
        }

        @Override
        int warms(int x) {
            trace.add(71);
            return super.warms(x) ^ v;
        }
    }

    private static final Class<?>[] KINDS = {House.class, Glass.class, Sand.class, Shade.class, Oven.class,
        Deep.class, Told.class};

    public int act(int house, int act, int x) {
        trace = new ArrayList<>();
        if (!is(house) || act < 0 || act > 2) {
            return 0;
        }
        Home h = all.homes.get(house);
        House made = switch (h.kind) {
            case 0 -> new House(h, trace);
            case 1 -> new Glass(h, trace);
            case 2 -> new Sand(h, trace);
            case 3 -> new Shade(h, trace);
            case 4 -> new Oven(h, trace);
            case 5 -> new Deep(h, trace);
            default -> new Told(h, trace);
        };
        return act == 0 ? made.warms(x) : act == 1 ? made.stores(x) : made.tells(x);
    }

    public int trace(int i) {
        return i >= 0 && i < Math.min(20, trace.size()) ? trace.get(i) : -1;
    }

    public int taken(int house, int k) {
        if (k < 0 || k > 6) {
            return -2;
        }
        if (!is(house)) {
            return -11;
        }
        int kind = all.homes.get(house).kind;
        return KINDS[k].isAssignableFrom(KINDS[kind]) ? kind : -12;
    }

    public int count(int what) {
        return switch (what) {
            case 0 -> all.homes.size();
            case 1 -> grounds;
            case 2 -> all.seen.size();
            case 3 -> all.book.size();
            case 4 -> text.length();
            case 5 -> trace.size();
            default -> -2;
        };
    }

    // ---- tapes

    public int tape(int tape, int sort, int n) {
        if (tape < 0 || tape > 5) {
            return -1;
        }
        if (sort == -1) {
            tapes[tape] = null;
            return 1;
        }
        if (sort < -1 || sort > 4 || n > 60) {
            return -2;
        }
        if (n < 0) {
            return -14;
        }
        Class<?>[] sorts = {byte.class, short.class, int.class, long.class, boolean.class};
        tapes[tape] = Array.newInstance(sorts[sort], n);
        return 1;
    }

    public int item(int tape, int i, long v) {
        if (tape < 0 || tape > 5) {
            return -1;
        }
        Object row = tapes[tape];
        if (row == null) {
            return -11;
        }
        if (i < 0 || i >= Array.getLength(row)) {
            return -13;
        }
        if (row instanceof byte[] bytes) {
            bytes[i] = (byte) v;
        } else if (row instanceof short[] shorts) {
            shorts[i] = (short) v;
        } else if (row instanceof int[] ints) {
            ints[i] = (int) v;
        } else if (row instanceof long[] longs) {
            longs[i] = v;
        } else if (row instanceof boolean[] booleans) {
            booleans[i] = v != 0;
        }
        return 1;
    }

    public long read(int tape, int i) {
        if (tape < 0 || tape > 5 || tapes[tape] == null || i < 0 || i >= Array.getLength(tapes[tape])) {
            return NO;
        }
        Object item = Array.get(tapes[tape], i);
        return item instanceof Boolean b ? (b ? 1 : 0) : ((Number) item).longValue();
    }

    public int shift(int tape, int i, int other, int j, int n) {
        if (tape < 0 || tape > 5 || other < 0 || other > 5) {
            return -1;
        }
        Object from = tapes[tape];
        Object to = tapes[other];
        if (from == null || to == null) {
            return -11;
        }
        if (from.getClass() != to.getClass()) {
            return -12;
        }
        if (n < 0 || i < 0 || j < 0 || (long) i + n > Array.getLength(from)
            || (long) j + n > Array.getLength(to)) {
            return -13;
        }
        System.arraycopy(from, i, to, j, n);
        return n;
    }
}
