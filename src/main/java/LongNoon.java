/**
 * Houses on ground over which the sun stands for fourteen days and is gone for fourteen, that hoard heat
 * in stores and give it out again. What each call answers is told in DOC.md, promise by promise; words in
 * capitals here are its terms.
 */
public final class LongNoon {
    public static final int NONE = -1, BAD = -2, STATE = -3, FULL = -4;
    public static final long NO = Long.MIN_VALUE;

    private static final int NO_DAY = -5, NOTHING = -11, CAST = -12, PLACE = -13, SIZE = -14;
    private static final int NO_HOUSE_TO_TELL_OF = -10001, NO_HOUSE_TO_GIVE = -1001, BAD_GIFT = -1002;
    private static final int FAULT_AT_START = -10;

    private static final int MOONS = 28, LIGHT_MOONS = 14, LAST_DAY = 9999;
    private static final int LOOKED_AHEAD = 56, SEEN_AHEAD = 30, ASKED_AHEAD = 60;
    private static final int MOST_HOUSES = 6, MOST_GROUNDS = 6, MOST_TAPES = 6, MOST_SEEN = 8, MOST_BOOKED = 12;
    private static final int MOST_V = 9, MOST_HEAT = 199, MOST_CAP = 99, MOST_LEAK = 9;
    private static final int MOST_IN_ROW = 9, MOST_GIFT = 99, MOST_SEEN_TO_HOLD = 199, MOST_DUST = 9;
    private static final int LAST_SIGN = 127, MOST_HEAT_TRIED = 190, HEAT_STEP = 10;
    private static final int TEXT_LENGTH = 100, MOST_CLAUSES = 10, MOST_NESTED = 4;
    private static final int TAPE_LENGTH = 60;

    private static final int HOUSE = 0, GLASS = 1, SAND = 2, SHADE = 3, OVEN = 4, DEEP = 5, TOLD = 6;
    /** The KIND above each, by KIND. */
    private static final int[] ABOVE = {-1, HOUSE, HOUSE, HOUSE, GLASS, SAND, SHADE};

    /** Dust that leaves nothing of any SUN: ten clauses of 99 are less. */
    private static final int ALL_DUST = 1000;
    /** How many days behind its first the glass stays turned away. */
    private static final int TURNED_ON = 4;
    private static final int LAST_TURN = 28, UNTURNED = 0;

    private final Town now = new Town();
    private final Town kept = new Town();
    private boolean imaged;
    /** Houses to try things on, so that what is asked changes nothing. */
    private final Town trial = new Town();
    private final House probe = new House();
    private final House second = new House();
    private final Store common = new Store();

    private final Reader reader = new Reader();
    private final Ground bare = new Ground();
    private final Ground[] grounds = new Ground[MOST_GROUNDS];
    private int groundCount;

    private final Player player = new Player();
    private final Tape[] tapes = new Tape[MOST_TAPES];

    public LongNoon() {
        for (int i = 0; i < grounds.length; i++) {
            grounds[i] = new Ground();
        }
        for (int i = 0; i < tapes.length; i++) {
            tapes[i] = new Tape();
        }
    }

    // ---- houses, grounds

    public int house(int kind, int v, int heat, int cap) {
        if (!within(kind, TOLD)) {
            return NONE;
        }
        if (!within(v, MOST_V) || !within(heat, MOST_HEAT) || !within(cap, MOST_CAP)) {
            return BAD;
        }
        if (now.many >= MOST_HOUSES) {
            return FULL;
        }
        int number = now.many;
        now.houses[number].build(number, kind, v, heat, cap);
        now.many++;
        return number;
    }

    public int of(int house, int what) {
        House h = houseAt(house);
        if (h == null) {
            return NO_HOUSE_TO_TELL_OF;
        }
        Ground g = groundNow();
        int moon = now.moon();
        int held = h.store.holds;
        switch (what) {
            case 0: return h.kind;
            case 1: return h.v;
            case 2: return h.warmth;
            case 3: return held;
            case 4: return h.capacity;
            case 5: return h.store.leak;
            case 6: return h.store.room;
            case 7: return g.sunOver(h, moon, held);
            case 8: return g.coldOver(h, moon, held);
            case 9: return h.gainOn(g, moon, held, 0);
            default: return NO_HOUSE_TO_TELL_OF;
        }
    }

    public int set(int house, int what, int n) {
        House h = houseAt(house);
        if (h == null || !within(what, 2)) {
            return NONE;
        }
        int most = what == 0 ? MOST_HEAT : what == 1 ? h.store.room : MOST_LEAK;
        if (!within(n, most)) {
            return BAD;
        }
        int was;
        if (what == 0) {
            was = h.warmth;
            h.warmth = n;
        } else if (what == 1) {
            was = h.store.holds;
            h.store.holds = n;
        } else {
            was = h.store.leak;
            h.store.leak = n;
        }
        return was;
    }

    public int row(int house, int part, int n) {
        House h = houseAt(house);
        if (h == null || part < 0 || part >= h.row.length) {
            return NONE;
        }
        if (!within(n, MOST_IN_ROW)) {
            return BAD;
        }
        if (h.kind != TOLD) {
            return STATE;
        }
        int was = h.row[part];
        h.row[part] = n;
        return was;
    }

    public int feed(int sign) {
        if (!within(sign, LAST_SIGN)) {
            return BAD;
        }
        return reader.takeSign((char) sign) ? reader.length : FULL;
    }

    public int ground() {
        if (groundCount >= grounds.length) {
            return FULL;
        }
        // The next ground is its own draft: it is cleared again, if the text is at fault.
        int fault = reader.fill(grounds[groundCount]);
        if (fault >= 0) {
            return FAULT_AT_START - fault;
        }
        now.holding = groundCount;
        groundCount++;
        return now.holding;
    }

    public int told(int what) {
        switch (what) {
            case 0: return now.day;
            case 1: return now.moon();
            case 2: return isLight(now.moon()) ? 1 : 0;
            case 3: return groundNow().low;
            case 4: return groundNow().high;
            default: return NONE;
        }
    }

    // ---- days

    public int day() {
        if (now.day >= LAST_DAY) {
            return STATE;
        }
        Ground g = groundNow();
        int amiss = 0;
        for (int i = 0; i < now.many && i < now.houses.length; i++) {
            if (now.houses[i].pass(g, now.day, 0)) {
                amiss |= 1 << i;
            }
        }
        now.day++;
        return amiss;
    }

    public int on(int house, int n, int what) {
        House h = houseAt(house);
        if (h == null || !within(what, 2)) {
            return NONE;
        }
        if (!within(n, ASKED_AHEAD)) {
            return BAD;
        }
        probe.become(h);
        int amiss = probe.amissDays(groundNow(), now.day, n, UNTURNED);
        return what == 0 ? probe.warmth : what == 1 ? probe.store.holds : amiss;
    }

    public int first(int house) {
        House h = houseAt(house);
        if (h == null) {
            return NONE;
        }
        probe.become(h);
        return probe.firstAmiss(groundNow(), now.day);
    }

    public int never() {
        Ground g = groundNow();
        int fine = 0;
        for (int i = 0; i < now.many && i < now.houses.length; i++) {
            probe.become(now.houses[i]);
            if (probe.firstAmiss(g, now.day) == NO_DAY) {
                fine |= 1 << i;
            }
        }
        return fine;
    }

    // ---- the least

    public int cap(int house) {
        House h = houseAt(house);
        if (h == null) {
            return NONE;
        }
        Ground g = groundNow();
        for (int c = 0; c <= MOST_CAP; c++) {
            probe.become(h);
            probe.holdUpTo(c);
            if (probe.firstAmiss(g, now.day) == NO_DAY) {
                return c;
            }
        }
        return NO_DAY;
    }

    public int full(int house) {
        House h = houseAt(house);
        if (h == null) {
            return NONE;
        }
        Ground g = groundNow();
        for (int holds = 0; holds <= h.store.room; holds++) {
            probe.become(h);
            probe.store.holds = holds;
            if (probe.firstAmiss(g, now.day) == NO_DAY) {
                return holds;
            }
        }
        return NO_DAY;
    }

    public int heat(int house, int what) {
        House h = houseAt(house);
        if (h == null || !within(what, 1)) {
            return NONE;
        }
        Ground g = groundNow();
        int best = 0;
        int fewest = LOOKED_AHEAD + 1;
        for (int warmth = 0; warmth <= MOST_HEAT_TRIED; warmth += HEAT_STEP) {
            probe.become(h);
            probe.warmth = warmth;
            int days = probe.amissDays(g, now.day, LOOKED_AHEAD, UNTURNED);
            if (days < fewest) {
                fewest = days;
                best = warmth;
            }
        }
        return what == 0 ? best : fewest;
    }

    public int big(int what) {
        if (!within(what, 1)) {
            return NONE;
        }
        trial.become(now);
        trial.pool(common);
        Ground g = groundNow();
        int days = 0;
        for (int d = 0; d < MOONS; d++) {
            if (trial.passWith(common, g)) {
                days++;
            }
        }
        return what == 0 ? days : common.holds;
    }

    public int gives(int one, int other, int n) {
        House giver = houseAt(one);
        House taker = houseAt(other);
        if (giver == null || taker == null) {
            return NO_HOUSE_TO_GIVE;
        }
        if (one == other || !within(n, MOST_GIFT)) {
            return BAD_GIFT;
        }
        int before = amissOfBoth(giver, taker, 0);
        int gift = Math.min(n, Math.min(giver.store.holds, taker.store.room - taker.store.holds));
        return before - amissOfBoth(giver, taker, gift);
    }

    public int turn(int house, int what) {
        House h = houseAt(house);
        if (h == null || !within(what, 1)) {
            return NONE;
        }
        Ground g = groundNow();
        int best = 1;
        int fewest = LOOKED_AHEAD + 1;
        for (int n = 1; n <= LAST_TURN; n++) {
            probe.become(h);
            int days = probe.amissDays(g, now.day, LOOKED_AHEAD, n);
            if (days < fewest) {
                fewest = days;
                best = n;
            }
        }
        return what == 0 ? best : fewest;
    }

    public int alike(int one, int other) {
        House h = houseAt(one);
        House o = houseAt(other);
        if (h == null || o == null) {
            return NONE;
        }
        if (one == other) {
            return BAD;
        }
        Ground g = groundNow();
        probe.become(h);
        second.become(o);
        int days = 0;
        for (int d = 0; d < MOONS; d++) {
            if (probe.pass(g, now.day + d, 0) == second.pass(g, now.day + d, 0)) {
                days++;
            }
        }
        return days;
    }

    // ---- seen, odds, books

    public int see(int house, int n, int holds) {
        if (house == -1) {
            now.seen = 0;
            return 0;
        }
        if (houseAt(house) == null) {
            return NONE;
        }
        if (!within(n, SEEN_AHEAD) || !within(holds, MOST_SEEN_TO_HOLD)) {
            return BAD;
        }
        if (now.seen >= MOST_SEEN) {
            return FULL;
        }
        now.seenHouse[now.seen] = house;
        now.seenDay[now.seen] = n;
        now.seenHolds[now.seen] = holds;
        now.seen++;
        return now.seen;
    }

    public int leaks(int house) {
        House h = houseAt(house);
        if (h == null) {
            return NONE;
        }
        int leaks = 0;
        for (int leak = 0; leak <= MOST_LEAK; leak++) {
            probe.become(h);
            probe.store.leak = leak;
            if (isAsSeen(probe)) {
                leaks |= 1 << leak;
            }
        }
        return leaks;
    }

    public int dry(int house) {
        House h = houseAt(house);
        if (h == null) {
            return NONE;
        }
        Ground g = groundNow();
        probe.become(h);
        for (int d = 1; d <= ASKED_AHEAD; d++) {
            probe.pass(g, now.day + d - 1, 0);
            if (probe.store.holds == 0) {
                return d;
            }
        }
        return NO_DAY;
    }

    public long odds(int house, int part) {
        House h = houseAt(house);
        if (h == null || !within(part, 1)) {
            return NO;
        }
        Ground g = groundNow();
        int amiss = 0;
        for (int dust = 0; dust <= MOST_DUST; dust++) {
            probe.become(h);
            if (probe.pass(g, now.day, dust)) {
                amiss++;
            }
        }
        return lowest(amiss, MOST_DUST + 1, part);
    }

    public long mean(int n, int part) {
        if (n < 1 || n > ASKED_AHEAD || !within(part, 1) || now.many == 0) {
            return NO;
        }
        Ground g = groundNow();
        int sum = 0;
        for (int i = 0; i < now.many && i < now.houses.length; i++) {
            probe.become(now.houses[i]);
            for (int d = 0; d < n; d++) {
                probe.pass(g, now.day + d, 0);
                sum += probe.warmth;
            }
        }
        return lowest(sum, n * now.many, part);
    }

    public int book(int house) {
        if (house == -1) {
            now.booked = 0;
            return 0;
        }
        if (houseAt(house) == null) {
            return NONE;
        }
        if (now.booked >= MOST_BOOKED) {
            return FULL;
        }
        now.book[now.booked] = house;
        now.booked++;
        return now.booked;
    }

    public int looked() {
        Ground g = groundNow();
        for (int i = 0; i < now.booked && i < now.book.length; i++) {
            House h = houseAt(now.book[i]);
            if (h == null) {
                return i;
            }
            probe.become(h);
            boolean amiss = false;
            for (int d = 0; d <= i; d++) {
                amiss = probe.pass(g, now.day + d, 0);
            }
            if (!amiss) {
                return i;
            }
        }
        return NO_DAY;
    }

    // ---- judging, the image, acts, tapes

    public int judge(int tape, int i) {
        Tape t = tapeAt(tape);
        if (t == null) {
            return NONE;
        }
        if (!t.isEmpty() && t.sort != Tape.SHORTS) {
            return CAST;
        }
        for (int k = 0; k < now.many && k < now.houses.length; k++) {
            if (i < 0 || i >= t.length - k) {
                return 100 + k;
            }
            if (t.items[i + k] != now.houses[k].warmth) {
                return k;
            }
        }
        return NO_DAY;
    }

    public int image() {
        kept.become(now);
        imaged = true;
        return now.many;
    }

    public int undo() {
        if (!imaged) {
            return STATE;
        }
        now.become(kept);
        return now.many;
    }

    public int act(int house, int act, int x) {
        player.forget();
        House h = houseAt(house);
        if (h == null || !within(act, 2)) {
            return 0;
        }
        return player.play(h, act, x);
    }

    public int trace(int i) {
        return i >= 0 && i < player.ran && i < player.bodies.length ? player.bodies[i] : NONE;
    }

    public int taken(int house, int k) {
        if (!within(k, TOLD)) {
            return BAD;
        }
        House h = houseAt(house);
        if (h == null) {
            return NOTHING;
        }
        return isUnder(h.kind, k) ? h.kind : CAST;
    }

    public int count(int what) {
        switch (what) {
            case 0: return now.many;
            case 1: return groundCount;
            case 2: return now.seen;
            case 3: return now.booked;
            case 4: return reader.length;
            case 5: return player.ran;
            default: return BAD;
        }
    }

    public int tape(int tape, int sort, int n) {
        Tape t = tapeAt(tape);
        if (t == null) {
            return NONE;
        }
        if (sort == Tape.EMPTY) {
            t.become(Tape.EMPTY, 0);
            return 1;
        }
        if (!within(sort, Tape.BOOLEANS) || n > TAPE_LENGTH) {
            return BAD;
        }
        if (n < 0) {
            return SIZE;
        }
        t.become(sort, n);
        return 1;
    }

    public int item(int tape, int i, long v) {
        Tape t = tapeAt(tape);
        if (t == null) {
            return NONE;
        }
        if (t.isEmpty()) {
            return NOTHING;
        }
        if (!t.has(i)) {
            return PLACE;
        }
        t.items[i] = t.cut(v);
        return 1;
    }

    public long read(int tape, int i) {
        Tape t = tapeAt(tape);
        return t != null && t.has(i) ? t.items[i] : NO;
    }

    public int shift(int tape, int i, int other, int j, int n) {
        Tape from = tapeAt(tape);
        Tape to = tapeAt(other);
        if (from == null || to == null) {
            return NONE;
        }
        if (from.isEmpty() || to.isEmpty()) {
            return NOTHING;
        }
        if (from.sort != to.sort) {
            return CAST;
        }
        if (n < 0 || i < 0 || j < 0 || i > from.length - n || j > to.length - n) {
            return PLACE;
        }
        System.arraycopy(from.items, i, to.items, j, n);
        return n;
    }

    // ---- what several calls need

    private static boolean within(int n, int most) {
        return n >= 0 && n <= most;
    }

    private static boolean isLight(int moon) {
        return moon < LIGHT_MOONS;
    }

    private House houseAt(int number) {
        return number >= 0 && number < now.many && number < now.houses.length ? now.houses[number] : null;
    }

    private Tape tapeAt(int number) {
        return number >= 0 && number < tapes.length ? tapes[number] : null;
    }

    private Ground groundNow() {
        int g = now.holding;
        return g >= 0 && g < groundCount && g < grounds.length ? grounds[g] : bare;
    }

    /** On how many days the two are amiss, together, once the one has given the other so much. */
    private int amissOfBoth(House giver, House taker, int gift) {
        Ground g = groundNow();
        probe.become(giver);
        probe.store.holds -= gift;
        second.become(taker);
        second.store.holds += gift;
        return probe.amissDays(g, now.day, LOOKED_AHEAD, UNTURNED)
            + second.amissDays(g, now.day, LOOKED_AHEAD, UNTURNED);
    }

    /** Lets days go over a house, as long as its store holds what was seen of it. */
    private boolean isAsSeen(House tried) {
        Ground g = groundNow();
        int last = now.lastSeenDay(tried.number);
        for (int d = 0; d <= last; d++) {
            if (d > 0) {
                tried.pass(g, now.day + d - 1, 0);
            }
            if (!now.wasSeenSo(tried.number, d, tried.store.holds)) {
                return false;
            }
        }
        return true;
    }

    private static boolean isUnder(int kind, int k) {
        int at = kind;
        for (int up = 0; up < ABOVE.length && at >= 0 && at < ABOVE.length; up++) {
            if (at == k) {
                return true;
            }
            at = ABOVE[at];
        }
        return false;
    }

    /** One part of the fraction in lowest terms: 0 above the line, 1 below. */
    private static int lowest(int above, int below, int part) {
        int a = above;
        int b = below;
        for (int step = 0; step < 64 && b != 0; step++) {
            int rest = a % b;
            a = b;
            b = rest;
        }
        int shared = Math.max(1, a);
        return part == 0 ? above / shared : below / shared;
    }

    /** A store of heat: a house's own, or the one big store. */
    private static final class Store {
        int holds, room, leak;

        void become(Store other) {
            holds = other.holds;
            room = other.room;
            leak = other.leak;
        }

        void seep() {
            holds = Math.max(0, holds - leak);
        }

        /** Takes in as much of what comes as there is room for: how much. */
        int takeIn(int comes) {
            int goesIn = Math.min(comes, Math.max(0, room - holds));
            holds += goesIn;
            return goesIn;
        }

        /** Gives out as much of what lacks as it holds: how much. */
        int giveOut(int lacks) {
            int given = Math.min(lacks, holds);
            holds -= given;
            return given;
        }
    }

    private static final class House {
        int number, kind, v, warmth, capacity;
        final Store store = new Store();
        /** A TOLD one's four numbers. */
        final int[] row = new int[4];

        void build(int itsNumber, int itsKind, int itsV, int heat, int cap) {
            number = itsNumber;
            kind = itsKind;
            v = itsV;
            warmth = heat;
            store.holds = 0;
            store.leak = 0;
            holdUpTo(cap);
            for (int i = 0; i < row.length; i++) {
                row[i] = 4;
            }
        }

        void become(House other) {
            number = other.number;
            kind = other.kind;
            v = other.v;
            warmth = other.warmth;
            capacity = other.capacity;
            store.become(other.store);
            System.arraycopy(other.row, 0, row, 0, row.length);
        }

        /** Has this capacity from now on; what the store holds above its room is gone. */
        void holdUpTo(int cap) {
            capacity = cap;
            store.room = kind == SAND || kind == DEEP ? cap + v : cap;
            store.holds = Math.min(store.holds, store.room);
        }

        /** GAIN, where what is held (by its own store or the big one) is told, and dust takes from the sun. */
        int gainOn(Ground g, int moon, int held, int dust) {
            int sun = Math.max(0, g.sunOver(this, moon, held) - dust);
            int cold = g.coldOver(this, moon, held);
            switch (kind) {
                case GLASS: return 2 * sun - cold;
                case SHADE: return sun / 2 - cold;
                case OVEN: return 2 * sun - cold + v;
                case DEEP: return (sun - cold) / 2;
                case TOLD: return sun / 2 - cold + row[moon & 3] - 4;
                default: return sun - cold;
            }
        }

        /** Becomes as warm as the gain and a store make it: whether it is amiss. */
        boolean settle(Ground g, int gain, Store from) {
            warmth = Math.max(0, Math.min(MOST_HEAT, warmth + gain));
            if (warmth > g.high) {
                warmth -= from.takeIn(warmth - g.high);
            } else if (warmth < g.low) {
                warmth += from.giveOut(g.low - warmth);
            }
            return warmth > g.high || warmth < g.low;
        }

        /** A day goes for it by itself: whether it is amiss. */
        boolean pass(Ground g, int day, int dust) {
            int gain = gainOn(g, day % MOONS, store.holds, dust);
            store.seep();
            return settle(g, gain, store);
        }

        /** The first day on which it is amiss. */
        int firstAmiss(Ground g, int day) {
            for (int d = 1; d <= LOOKED_AHEAD; d++) {
                if (pass(g, day + d - 1, 0)) {
                    return d;
                }
            }
            return NO_DAY;
        }

        /** On how many of the days it is amiss, its glass turned away from the day told on (UNTURNED: never). */
        int amissDays(Ground g, int day, int days, int turned) {
            int amiss = 0;
            for (int d = 1; d <= days; d++) {
                boolean away = turned != UNTURNED && d >= turned && d <= turned + TURNED_ON;
                if (pass(g, day + d - 1, away ? ALL_DUST : 0)) {
                    amiss++;
                }
            }
            return amiss;
        }
    }

    /** All that THE IMAGE keeps. */
    private static final class Town {
        final House[] houses = new House[MOST_HOUSES];
        int many, day;
        /** The number of the ground that holds; below 0: none. */
        int holding = -1;
        final int[] seenHouse = new int[MOST_SEEN];
        final int[] seenDay = new int[MOST_SEEN];
        final int[] seenHolds = new int[MOST_SEEN];
        int seen;
        final int[] book = new int[MOST_BOOKED];
        int booked;

        Town() {
            for (int i = 0; i < houses.length; i++) {
                houses[i] = new House();
            }
        }

        void become(Town other) {
            for (int i = 0; i < other.many && i < houses.length && i < other.houses.length; i++) {
                houses[i].become(other.houses[i]);
            }
            many = other.many;
            day = other.day;
            holding = other.holding;
            System.arraycopy(other.seenHouse, 0, seenHouse, 0, seenHouse.length);
            System.arraycopy(other.seenDay, 0, seenDay, 0, seenDay.length);
            System.arraycopy(other.seenHolds, 0, seenHolds, 0, seenHolds.length);
            seen = other.seen;
            System.arraycopy(other.book, 0, book, 0, book.length);
            booked = other.booked;
        }

        int moon() {
            return day % MOONS;
        }

        /** Makes the store all the stores in one. */
        void pool(Store all) {
            all.holds = 0;
            all.room = 0;
            all.leak = 0;
            for (int i = 0; i < many && i < houses.length; i++) {
                Store own = houses[i].store;
                all.holds += own.holds;
                all.room += own.room;
                all.leak += own.leak;
            }
        }

        /** A day goes with one store for all: whether one house or more is amiss. */
        boolean passWith(Store all, Ground g) {
            int held = all.holds;
            boolean amiss = false;
            all.seep();
            for (int i = 0; i < many && i < houses.length; i++) {
                House h = houses[i];
                if (h.settle(g, h.gainOn(g, moon(), held, 0), all)) {
                    amiss = true;
                }
            }
            day++;
            return amiss;
        }

        /** The last day for which something was seen of the house; below 0: none. */
        int lastSeenDay(int house) {
            int last = -1;
            for (int i = 0; i < seen && i < seenHouse.length; i++) {
                if (seenHouse[i] == house) {
                    last = Math.max(last, seenDay[i]);
                }
            }
            return last;
        }

        /** Whether nothing else was seen of the house for that day than that its store holds so much. */
        boolean wasSeenSo(int house, int d, int holds) {
            for (int i = 0; i < seen && i < seenHouse.length; i++) {
                if (seenHouse[i] == house && seenDay[i] == d && seenHolds[i] != holds) {
                    return false;
                }
            }
            return true;
        }
    }

    /** What a text told: when how much sun and cold there is, and between what a house should be kept. */
    private static final class Ground {
        final Clauses sun = new Clauses();
        final Clauses cold = new Clauses();
        int low = 20, high = 80;

        void clear() {
            sun.clear();
            cold.clear();
            low = 20;
            high = 80;
        }

        int sunOver(House h, int moon, int held) {
            return isLight(moon) ? sun.total(h, moon, held) : 0;
        }

        int coldOver(House h, int moon, int held) {
            return isLight(moon) ? 0 : cold.total(h, moon, held);
        }
    }

    /**
     * The clauses of one word, as steps: tests, jumps over what no longer matters (so that neither a tree
     * nor a stack is needed), and at each clause's end its number.
     */
    private static final class Clauses {
        /** Steps below NOT are tests: three times the letter's place in LETTERS, and the sign's in SIGNS. */
        static final int NOT = 18, JUMP_IF = 19, JUMP_UNLESS = 20, ADD = 21;
        static final String LETTERS = "hkvmes", SIGNS = "<=>";
        static final int WITHOUT_ANY = 10;

        /** No clause has more steps than bytes. */
        final int[] steps = new int[TEXT_LENGTH];
        final int[] numbers = new int[TEXT_LENGTH];
        int size;
        boolean any;

        void clear() {
            size = 0;
            any = false;
        }

        /** One step more: its place; below 0: there is no room. */
        int addStep(int step, int number) {
            if (size >= steps.length) {
                return -1;
            }
            steps[size] = step;
            numbers[size] = number;
            size++;
            return size - 1;
        }

        void endClause(int n) {
            addStep(ADD, n);
            any = true;
        }

        /** Lets the jump at that place, if it is one, lead to what comes next. */
        void landHere(int jump) {
            if (jump >= 0 && jump < size) {
                numbers[jump] = size;
            }
        }

        /** The numbers of all clauses that hold, together. */
        int total(House h, int moon, int held) {
            if (!any) {
                return WITHOUT_ANY;
            }
            int sum = 0;
            boolean so = false;
            int i = 0;
            for (int ran = 0; ran < steps.length && i >= 0 && i < size; ran++) {
                int step = steps[i];
                int number = numbers[i];
                i++;
                if (step < NOT) {
                    so = passes(step, number, h, moon, held);
                } else if (step == NOT) {
                    so = !so;
                } else if (step == ADD) {
                    sum += so ? number : 0;
                } else if (so == (step == JUMP_IF)) {
                    i = number;
                }
            }
            return sum;
        }

        private static boolean passes(int test, int number, House h, int moon, int held) {
            int n;
            switch (test / 3) {
                case 0: n = h.number; break;
                case 1: n = h.kind; break;
                case 2: n = h.v; break;
                case 3: n = moon; break;
                case 4: n = h.warmth / 10; break;
                default: n = held / 10; break;
            }
            switch (test % 3) {
                case 0: return n < number;
                case 1: return n == number;
                default: return n > number;
            }
        }
    }

    /** THE TEXT, and how a ground is read from it. */
    private static final class Reader {
        final char[] text = new char[TEXT_LENGTH];
        int length;
        /** The place of the first byte not read yet: where a fault is, if nothing more can be read. */
        private int place;

        boolean takeSign(char sign) {
            if (length >= text.length) {
                return false;
            }
            text[length] = sign;
            length++;
            return true;
        }

        /** Reads the text, which is empty then, into the ground: the fault's place; below 0: there is none. */
        int fill(Ground g) {
            g.clear();
            place = 0;
            boolean fine = readClause(g);
            for (int n = 1; n < MOST_CLAUSES && fine && readSign(';'); n++) {
                fine = readClause(g);
            }
            int fault = fine && place == length ? -1 : place;
            length = 0;
            return fault;
        }

        private boolean readClause(Ground g) {
            char first = nextSign();
            boolean isSun = first == 's';
            boolean isLow = first == 'l';
            // Another byte begins no "high " either: reading that finds the fault at its place.
            String word = isSun ? "sun " : first == 'c' ? "cold " : isLow ? "low " : "high ";
            int n = readWord(word) ? readNumber() : -1;
            if (n < 0) {
                return false;
            }
            if (isSun || first == 'c') {
                Clauses to = isSun ? g.sun : g.cold;
                boolean fine = readSign(' ') && readChain(to, '|', 0);
                to.endClause(n);
                return fine;
            }
            if (isLow) {
                g.low = n;
            } else {
                g.high = n;
            }
            return true;
        }

        /** Reads one part or more with a sign between: | between chains of &, & between single ones. */
        private boolean readChain(Clauses to, char between, int depth) {
            int jump = -1;
            for (int n = 0; n < TEXT_LENGTH; n++) {
                boolean fine = between == '|' ? readChain(to, '&', depth) : readSingle(to, depth);
                if (!fine) {
                    return false;
                }
                to.landHere(jump);
                if (!readSign(between)) {
                    return true;
                }
                jump = to.addStep(between == '|' ? Clauses.JUMP_IF : Clauses.JUMP_UNLESS, 0);
            }
            return false;
        }

        /** Reads a test, or what stands behind ! or in (); depth: within how many others of these. */
        private boolean readSingle(Clauses to, int depth) {
            char sign = nextSign();
            if (sign != '!' && sign != '(') {
                return readTest(to);
            }
            if (depth >= MOST_NESTED) {
                return false;
            }
            place++;
            if (sign == '(') {
                return readChain(to, '|', depth + 1) && readSign(')');
            }
            if (!readSingle(to, depth + 1)) {
                return false;
            }
            to.addStep(Clauses.NOT, 0);
            return true;
        }

        private boolean readTest(Clauses to) {
            int letter = Clauses.LETTERS.indexOf(nextSign());
            if (letter < 0) {
                return false;
            }
            place++;
            int sign = Clauses.SIGNS.indexOf(nextSign());
            if (sign < 0) {
                return false;
            }
            place++;
            int n = readNumber();
            if (n < 0) {
                return false;
            }
            to.addStep(3 * letter + sign, n);
            return true;
        }

        /** Reads one digit or two: the number; below 0: there is none. */
        private int readNumber() {
            int n = -1;
            for (int digits = 0; digits < 2 && nextSign() >= '0' && nextSign() <= '9'; digits++) {
                n = 10 * Math.max(0, n) + nextSign() - '0';
                place++;
            }
            return n;
        }

        private boolean readWord(String word) {
            for (int i = 0; i < word.length(); i++) {
                if (!readSign(word.charAt(i))) {
                    return false;
                }
            }
            return true;
        }

        private boolean readSign(char sign) {
            if (place >= length || place >= text.length || text[place] != sign) {
                return false;
            }
            place++;
            return true;
        }

        /** The next byte; 0, which begins nothing, behind the end. */
        private char nextSign() {
            return place >= 0 && place < length && place < text.length ? text[place] : 0;
        }
    }

    /** Does the acts, and keeps the trace of the latest one. */
    private static final class Player {
        static final int WARMS = 0, STORES = 1, TELLS = 2;
        static final int NO_BODY = 0, MOST_DEPTH = 40;
        /** The bodies by three times the KIND and the act. */
        static final int[] BODY = {
            10, 11, 12, NO_BODY, 20, NO_BODY, 30, NO_BODY, NO_BODY, NO_BODY, NO_BODY, 40,
            50, 51, NO_BODY, NO_BODY, NO_BODY, 60, 71, 70, NO_BODY
        };

        final int[] bodies = new int[20];
        /** How many ran, kept or not. */
        int ran;

        void forget() {
            ran = 0;
        }

        int play(House h, int act, int x) {
            return call(h, h.kind, act, x, 0);
        }

        /** Runs the body that the KIND, or the next above it that has one, has for the act. */
        private int call(House h, int kind, int act, int x, int depth) {
            int at = kind;
            for (int up = 0; up < ABOVE.length && at >= 0 && at < ABOVE.length; up++) {
                int place = 3 * at + act;
                if (place >= 0 && place < BODY.length && BODY[place] != NO_BODY) {
                    return depth < MOST_DEPTH ? runBody(BODY[place], h, x, depth + 1) : 0;
                }
                at = ABOVE[at];
            }
            return 0;
        }

        private int runBody(int body, House h, int x, int depth) {
            if (ran < bodies.length) {
                bodies[ran] = body;
            }
            ran++;
            switch (body) {
                case 10: return x + h.number;
                case 11: return call(h, h.kind, WARMS, x, depth) - h.v;
                case 12: return call(h, h.kind, STORES, x, depth) * 2;
                case 20: return call(h, HOUSE, STORES, x, depth) ^ 6;
                case 30: return call(h, HOUSE, WARMS, x * 3, depth);
                case 40: return call(h, HOUSE, TELLS, x, depth) + call(h, h.kind, STORES, 1, depth);
                case 50: return -call(h, GLASS, WARMS, x, depth);
                case 51: return call(h, GLASS, STORES, x + 1, depth);
                case 60: return call(h, SAND, TELLS, x - h.number, depth);
                case 70: return call(h, SHADE, STORES, x, depth) + call(h, SHADE, WARMS, 2, depth);
                case 71: return call(h, SHADE, WARMS, x, depth) ^ h.v;
                default: return 0;
            }
        }
    }

    /** A row of items of one sort, or nothing. */
    private static final class Tape {
        static final int EMPTY = -1, BYTES = 0, SHORTS = 1, INTS = 2, LONGS = 3, BOOLEANS = 4;

        int sort = EMPTY;
        int length;
        final long[] items = new long[TAPE_LENGTH];

        void become(int itsSort, int n) {
            sort = itsSort;
            length = Math.max(0, Math.min(n, items.length));
            for (int i = 0; i < items.length; i++) {
                items[i] = 0;
            }
        }

        boolean isEmpty() {
            return sort == EMPTY;
        }

        boolean has(int i) {
            return i >= 0 && i < length && i < items.length;
        }

        /** As much of a number as an item has room for. */
        long cut(long v) {
            switch (sort) {
                case BYTES: return (byte) v;
                case SHORTS: return (short) v;
                case INTS: return (int) v;
                case BOOLEANS: return v != 0 ? 1 : 0;
                default: return v;
            }
        }
    }
}
