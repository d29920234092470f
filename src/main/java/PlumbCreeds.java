/**
 * A valley of three sects, in which down is where one believes it to be.
 * ../shared/DOC.md says, as promises 1 to 32, what each call answers.
 */
public final class PlumbCreeds {
    public static final int NONE = -6, UNKNOWN = -1, OUTSIDE = -2, STATE = -3, FULL = -4, NO = -5;
    public static final long LOST = -1000000000000000000L;

    private static final int CREEDS = 3, ONES = 7, WALLS = 8, STAIRS = 12, PLACES = 10, IMAGES = 2;
    private static final int MOST_LEAN = 9, MOST_BEAR = 18, MOST_DOUBT = 9, LAST_YEAR = 99;
    private static final int MOST_SIGNS = 60, FIRST_SIGN = 33, LAST_SIGN = 126;
    private static final int MOST_SIGHTS = 8, MOST_SPANS = 40, MOST_SETTLING = 60;
    private static final int MOST_HELD = 99, MOST_FLOORS = 8, MOST_GAIN = 9, TENTHS = 10;
    private static final int MOST_SEED = 9999, MOST_DRAWS = 99;

    /** A LEAN is answered with this much more, so that no answer of one looks like a refusal. */
    private static final int SHOWN = 10;

    /** A set of LEANS has the bit LEAN + MOST_LEAN for each; this one has all 19. */
    private static final int EVERY_LEAN = 0x7FFFF;

    /** All that the CREEDS of seven ONES can be: 3 to the power of 7. */
    private static final int CREED_STATES = 2187;

    private static final int BUILDS = 0, CLIMBS = 1, CONVERTS = 2, QUAKES = 3, ENDS_YEAR = 4;

    private static final int NO_REASON = 0, NOBODY = 1, NO_WALL = 2, SAME_CREED = 3, TOO_DOUBTFUL = 4, NO_MORE_YEARS = 5;

    private static final int LESS = 0, SAME = 1, MORE = 2;

    private final Valley now = new Valley();
    private final Pad pad = new Pad();
    private final Telling telling = new Telling();
    private final Settling settling = new Settling();
    private final Valley firstImage = new Valley();
    private final Valley secondImage = new Valley();
    private int keptImages = 0;

    public PlumbCreeds() {
    }

    // ---- 1 creeds, ones, stairs, years

    public int creed(int creed, int down) {
        if (!isIn(creed, 0, CREEDS - 1)) {
            return UNKNOWN;
        }
        if (!isLean(down)) {
            return OUTSIDE;
        }
        int before = now.downOf.get(creed);
        now.downOf.set(creed, down);
        return before + SHOWN;
    }

    public int bear(int v) {
        if (!isIn(v, 0, MOST_BEAR)) {
            return OUTSIDE;
        }
        int before = now.bearing;
        now.bearing = v;
        return before;
    }

    public int one(int one, int creed, int doubt) {
        if (!isIn(one, 0, ONES - 1)) {
            return UNKNOWN;
        }
        if (!isIn(creed, 0, CREEDS - 1) || !isIn(doubt, 0, MOST_DOUBT)) {
            return OUTSIDE;
        }
        now.people |= 1 << one;
        now.creedOf.set(one, creed);
        now.doubtOf.set(one, doubt);
        return Integer.bitCount(now.people);
    }

    public int leave(int one) {
        if (!now.isThere(one)) {
            return UNKNOWN;
        }
        now.people &= ~(1 << one);
        return Integer.bitCount(now.people);
    }

    public int kin(int one, int other, boolean is) {
        if (!isIn(one, 0, ONES - 1) || !isIn(other, 0, ONES - 1) || one == other) {
            return UNKNOWN;
        }
        now.setKin(one, other, is);
        now.setKin(other, one, is);
        return now.kinTwos();
    }

    public int stair(int stair, int from, int to, int lean) {
        if (!isIn(stair, 0, STAIRS - 1)) {
            return UNKNOWN;
        }
        if (!isPlace(from) || !isPlace(to) || from == to || !isLean(lean)) {
            return OUTSIDE;
        }
        now.stairs |= 1 << stair;
        now.stairFrom.set(stair, from);
        now.stairTo.set(stair, to);
        now.stairLean.set(stair, lean);
        return Integer.bitCount(now.stairs);
    }

    public int say(int sign) {
        if (!isIn(sign, FIRST_SIGN, LAST_SIGN)) {
            return OUTSIDE;
        }
        return pad.add(sign) ? pad.count : FULL;
    }

    public int wipe() {
        int had = pad.count;
        pad.count = 0;
        return had;
    }

    public int fault() {
        return pad.faultPlace();
    }

    // ---- 2 years

    public int judge(int what) {
        if (!isIn(what, 0, 1)) {
            return OUTSIDE;
        }
        if (pad.faultPlace() != NONE) {
            return NO;
        }
        telling.tellYears(pad, now);
        return what == 0 ? telling.badAct : telling.reason;
    }

    public int done() {
        if (!telling.tellYears(pad, now)) {
            return NO;
        }
        now.copyFrom(telling.outcome);
        pad.count = 0;
        return telling.acts;
    }

    public int behind(int one, int what) {
        if (!now.isThere(one)) {
            return UNKNOWN;
        }
        if (!isIn(what, 0, 1)) {
            return OUTSIDE;
        }
        if (!telling.tellYears(pad, now)) {
            return NO;
        }
        return what == 0 ? telling.outcome.creedOf.get(one) : telling.outcome.doubtOf.get(one);
    }

    public int wall(int wall, int what) {
        if (!isIn(wall, 0, WALLS - 1)) {
            return UNKNOWN;
        }
        if (!isIn(what, 0, 1)) {
            return OUTSIDE;
        }
        if (!telling.tellYears(pad, now)) {
            return NO;
        }
        return telling.outcome.stands(wall) ? telling.outcome.wallTold(wall, what) : NONE;
    }

    public int fell(int what) {
        if (!isIn(what, 0, 3)) {
            return OUTSIDE;
        }
        if (!telling.tellYears(pad, now)) {
            return NO;
        }
        switch (what) {
            case 0:
                return telling.firstFall;
            case 1:
                return telling.firstFaller;
            case 2:
                return telling.falls;
            default:
                return telling.outcome.year;
        }
    }

    public int bears(int one) {
        return now.isThere(one) ? now.wallsFor(one) : UNKNOWN;
    }

    // ---- 3 leans, bridges, ways

    public int all(int set, int what) {
        if (!now.areThere(set)) {
            return UNKNOWN;
        }
        if (!isIn(what, 0, 1)) {
            return OUTSIDE;
        }
        int leans = now.leansFor(set);
        if (what == 0) {
            return Integer.bitCount(leans);
        }
        return leans == 0 ? NONE : leastOf(leans) - MOST_LEAN + SHOWN;
    }

    public int wedges(int wall, int set, int what) {
        if (!now.stands(wall) || !now.areThere(set)) {
            return UNKNOWN;
        }
        if (!isIn(what, 0, 1)) {
            return OUTSIDE;
        }
        int leans = now.leansFor(set);
        if (leans == 0) {
            return NONE;
        }
        int from = now.wallLean.get(wall);
        int best = nearestOf(leans, from + MOST_LEAN) - MOST_LEAN;
        return what == 0 ? Math.abs(best - from) : best + SHOWN;
    }

    public int meet(int one, int other, int n, int what) {
        if (!now.isThere(one) || !now.isThere(other)) {
            return UNKNOWN;
        }
        if (!isIn(n, 0, MOST_SPANS) || !isIn(what, 0, 1)) {
            return OUTSIDE;
        }
        int bestSpans = 0;
        int least = stepBehind(0, n, one, other);
        for (int spans = 1; spans <= n; spans++) {
            int step = stepBehind(spans, n, one, other);
            if (step < least) {
                least = step;
                bestSpans = spans;
            }
        }
        return what == 0 ? least : bestSpans;
    }

    public int ways(int one, int from, int to, int what) {
        if (!now.isThere(one)) {
            return UNKNOWN;
        }
        if (!isPlace(from) || !isPlace(to) || !isIn(what, 0, 1)) {
            return OUTSIDE;
        }
        if (from == to) {
            return what == 0 ? 0 : NONE;
        }
        // Searched from the end: the places around "from" that are one stair nearer then lie in "near".
        int near = 1 << to;
        for (int stairs = 1; stairs < PLACES; stairs++) {
            int wider = now.stepsFrom(near, one);
            if (has(wider, from)) {
                return what == 0 ? stairs : leastOf(now.stepsFrom(1 << from, one) & near);
            }
            near = wider;
        }
        return NONE;
    }

    public int reach(int one, int from) {
        if (!now.isThere(one)) {
            return UNKNOWN;
        }
        if (!isPlace(from)) {
            return OUTSIDE;
        }
        int places = 1 << from;
        for (int stairs = 1; stairs < PLACES; stairs++) {
            places = now.stepsFrom(places, one);
        }
        return places;
    }

    // ---- 4 what he holds, kin, towers

    public int seen(int lean, int how) {
        if (!isLean(lean) || !isIn(how, LESS, MORE)) {
            return OUTSIDE;
        }
        if (now.sights >= MOST_SIGHTS) {
            return FULL;
        }
        now.possible &= downsThat(how, lean);
        now.sights++;
        return now.sights;
    }

    public int forget() {
        int had = now.sights;
        now.sights = 0;
        now.possible = EVERY_LEAN;
        return had;
    }

    public int downs(int i) {
        if (i == -1) {
            return Integer.bitCount(now.possible);
        }
        int left = i;
        for (int lean = -MOST_LEAN; lean <= MOST_LEAN; lean++) {
            if (has(now.possible, lean + MOST_LEAN)) {
                if (left == 0) {
                    return lean + SHOWN;
                }
                left--;
            }
        }
        return NONE;
    }

    public int next(int what) {
        if (!isIn(what, 0, 1)) {
            return OUTSIDE;
        }
        if (now.possible == 0) {
            return NONE;
        }
        int best = -MOST_LEAN;
        for (int lean = best + 1; lean <= MOST_LEAN; lean++) {
            if (mostLeftBy(lean) < mostLeftBy(best)) {
                best = lean;
            }
        }
        return what == 0 ? best + SHOWN : mostLeftBy(best);
    }

    public int settle(int one, int n) {
        if (!now.isThere(one)) {
            return UNKNOWN;
        }
        if (!isIn(n, 0, MOST_SETTLING)) {
            return OUTSIDE;
        }
        settling.start(now);
        for (int year = 0; year < n; year++) {
            settling.passYear(now);
        }
        return settling.held.get(one);
    }

    public int again(int what) {
        if (!isIn(what, 0, 1)) {
            return OUTSIDE;
        }
        settling.findAgain(now);
        return what == 0 ? settling.againYear : settling.yearsBetween;
    }

    public long climb(int v, int m, int w, int t, int what, int part) {
        if (!isIn(v, 0, MOST_HELD) || !isIn(m, 0, MOST_FLOORS) || !isIn(w, 1, MOST_GAIN)
                || !isIn(t, 0, TENTHS) || !isIn(what, 0, 1) || !isIn(part, 0, 1)) {
            return LOST + OUTSIDE;
        }
        long over = v + m * w;
        long under = 1;
        boolean climbs = false;
        for (int floor = m - 1; floor >= 0; floor--) {
            under *= TENTHS;
            long staying = (v + floor * w) * under;
            long climbing = (TENTHS - t) * over;
            climbs = climbing > staying;
            over = Math.max(climbing, staying);
        }
        if (what == 1) {
            return climbs ? 1 : 0;
        }
        return lowestTerm(over, under, part);
    }

    public int book(int seed, int m, int what) {
        if (!isIn(seed, 0, MOST_SEED) || !isIn(m, 1, MOST_DRAWS) || !isIn(what, 0, 2)) {
            return OUTSIDE;
        }
        telling.tellBook(seed, m, now);
        if (what == 0) {
            return Integer.bitCount(telling.outcome.walls);
        }
        return what == 1 ? telling.falls : telling.outcome.doubtOfAll();
    }

    public int image(int n) {
        if (!isIn(n, 0, IMAGES - 1)) {
            return OUTSIDE;
        }
        imageAt(n).copyFrom(now);
        keptImages |= 1 << n;
        return 1;
    }

    public int restore(int n) {
        if (!isIn(n, 0, IMAGES - 1)) {
            return OUTSIDE;
        }
        if (!has(keptImages, n)) {
            return STATE;
        }
        now.copyFrom(imageAt(n));
        return 1;
    }

    public int told(int what) {
        if (what < 10) {
            return toldOfAll(what);
        }
        if (what < 20) {
            return what - 10 < CREEDS ? now.downOf.get(what - 10) + SHOWN : OUTSIDE;
        }
        if (what < 200) {
            return toldOfOne(what / 20 - 1, what % 20);
        }
        if (what < 300) {
            return toldOfWall((what - 200) / 10, what % 10);
        }
        return toldOfStair(what - 300);
    }

    // ---- helpers of the calls

    private static boolean isIn(int number, int least, int most) {
        return number >= least && number <= most;
    }

    private static boolean isLean(int number) {
        return isIn(number, -MOST_LEAN, MOST_LEAN);
    }

    private static boolean isPlace(int number) {
        return isIn(number, 0, PLACES - 1);
    }

    private static boolean has(int bits, int i) {
        return i >= 0 && i < 32 && (bits >> i & 1) == 1;
    }

    private static int leastOf(int bits) {
        for (int i = 0; i < 32; i++) {
            if (has(bits, i)) {
                return i;
            }
        }
        return NONE;
    }

    /** Of two bits as near as each other the lower one. */
    private static int nearestOf(int bits, int place) {
        int nearest = leastOf(bits);
        for (int i = nearest + 1; i < 32; i++) {
            if (has(bits, i) && Math.abs(i - place) < Math.abs(nearest - place)) {
                nearest = i;
            }
        }
        return nearest;
    }

    private static int downsThat(int how, int lean) {
        int same = 1 << (lean + MOST_LEAN);
        int less = same - 1;
        if (how == LESS) {
            return less;
        }
        return how == SAME ? same : EVERY_LEAN & ~(less | same);
    }

    private int mostLeftBy(int lean) {
        int most = 0;
        for (int how = LESS; how <= MORE; how++) {
            most = Math.max(most, Integer.bitCount(now.possible & downsThat(how, lean)));
        }
        return most;
    }

    private int stepBehind(int spans, int n, int one, int other) {
        return Math.abs(spans * now.downFor(one) - (n - spans) * now.downFor(other));
    }

    private static long lowestTerm(long over, long under, int part) {
        long common = commonDivisor(over, under);
        long term = part == 0 ? over : under;
        return common == 0 ? term : term / common;
    }

    private static long commonDivisor(long first, long second) {
        long a = first;
        long b = second;
        // Two longs need fewer rounds than 100: each two of them halve the greater one.
        for (int round = 0; round < 100 && b != 0; round++) {
            long rest = a % b;
            a = b;
            b = rest;
        }
        return a;
    }

    private Valley imageAt(int n) {
        return n == 0 ? firstImage : secondImage;
    }

    private int toldOfAll(int what) {
        switch (what) {
            case 0:
                return pad.count;
            case 1:
                return now.people;
            case 2:
                return now.walls;
            case 3:
                return now.bearing;
            case 4:
                return now.year;
            case 5:
                return now.sights;
            case 6:
                return now.stairs;
            default:
                return OUTSIDE;
        }
    }

    private int toldOfOne(int one, int detail) {
        if (!now.isThere(one) || !isIn(detail, 0, 1)) {
            return OUTSIDE;
        }
        return detail == 0 ? now.creedOf.get(one) : now.doubtOf.get(one);
    }

    private int toldOfWall(int wall, int detail) {
        if (!now.stands(wall) || !isIn(detail, 0, 1)) {
            return OUTSIDE;
        }
        return now.wallTold(wall, detail);
    }

    private int toldOfStair(int stair) {
        if (!has(now.stairs, stair)) {
            return OUTSIDE;
        }
        return 1000 * now.stairFrom.get(stair) + 100 * now.stairTo.get(stair) + now.stairLean.get(stair) + SHOWN;
    }

    /** Numbers in a row. Here each index is tested: one that is not of the row reads 0 and sets nothing. */
    private static final class Row {
        private final int[] cells;

        Row(int length) {
            cells = new int[Math.max(length, 0)];
        }

        int get(int i) {
            return i >= 0 && i < cells.length ? cells[i] : 0;
        }

        void set(int i, int value) {
            if (i >= 0 && i < cells.length) {
                cells[i] = value;
            }
        }

        void copyFrom(Row other) {
            for (int i = 0; i < cells.length; i++) {
                cells[i] = other.get(i);
            }
        }

        void clear() {
            for (int i = 0; i < cells.length; i++) {
                cells[i] = 0;
            }
        }
    }

    /** All but the PAD: what is now, what an IMAGE keeps, and what stands behind YEARS. */
    private static final class Valley {
        final Row downOf = new Row(CREEDS);
        int bearing = 3;
        int people = 0;
        final Row creedOf = new Row(ONES);
        final Row doubtOf = new Row(ONES);
        final Row kinOf = new Row(ONES);
        int walls = 0;
        final Row wallLean = new Row(WALLS);
        final Row wallCreed = new Row(WALLS);
        int stairs = 0;
        final Row stairFrom = new Row(STAIRS);
        final Row stairTo = new Row(STAIRS);
        final Row stairLean = new Row(STAIRS);
        int year = 0;
        int sights = 0;
        int possible = EVERY_LEAN;

        Valley() {
            downOf.set(0, -3);
            downOf.set(1, 0);
            downOf.set(2, 3);
        }

        void copyFrom(Valley other) {
            downOf.copyFrom(other.downOf);
            bearing = other.bearing;
            people = other.people;
            creedOf.copyFrom(other.creedOf);
            doubtOf.copyFrom(other.doubtOf);
            kinOf.copyFrom(other.kinOf);
            walls = other.walls;
            wallLean.copyFrom(other.wallLean);
            wallCreed.copyFrom(other.wallCreed);
            stairs = other.stairs;
            stairFrom.copyFrom(other.stairFrom);
            stairTo.copyFrom(other.stairTo);
            stairLean.copyFrom(other.stairLean);
            year = other.year;
            sights = other.sights;
            possible = other.possible;
        }

        boolean isThere(int one) {
            return has(people, one);
        }

        /** A set below 0 or above 127 has a bit of nobody, so it is refused here as well. */
        boolean areThere(int set) {
            return (set & ~people) == 0;
        }

        boolean stands(int wall) {
            return has(walls, wall);
        }

        int wallTold(int wall, int what) {
            return what == 0 ? wallLean.get(wall) + SHOWN : wallCreed.get(wall);
        }

        void setKin(int one, int other, boolean is) {
            int others = kinOf.get(one) & ~(1 << other);
            kinOf.set(one, is ? others | 1 << other : others);
        }

        int kinTwos() {
            int ends = 0;
            for (int one = 0; one < ONES; one++) {
                ends += Integer.bitCount(kinOf.get(one));
            }
            return ends / 2;
        }

        int downFor(int one) {
            return downOf.get(creedOf.get(one));
        }

        boolean carries(int lean, int one) {
            return Math.abs(lean - downOf.get(creedOf.get(one))) <= bearing;
        }

        int wallsFor(int one) {
            int carrying = 0;
            for (int wall = 0; wall < WALLS; wall++) {
                if (stands(wall) && carries(wallLean.get(wall), one)) {
                    carrying |= 1 << wall;
                }
            }
            return carrying;
        }

        boolean carriesAll(int lean, int set) {
            for (int one = 0; one < ONES; one++) {
                if (has(set, one) && !carries(lean, one)) {
                    return false;
                }
            }
            return true;
        }

        int leansFor(int set) {
            int leans = 0;
            for (int lean = -MOST_LEAN; lean <= MOST_LEAN; lean++) {
                if (carriesAll(lean, set)) {
                    leans |= 1 << (lean + MOST_LEAN);
                }
            }
            return leans;
        }

        /** The places themselves, and those to which he comes from them by one stair. */
        int stepsFrom(int places, int one) {
            int wider = places;
            for (int stair = 0; stair < STAIRS; stair++) {
                if (has(stairs, stair) && carries(stairLean.get(stair), one)) {
                    int from = stairFrom.get(stair);
                    int to = stairTo.get(stair);
                    wider |= has(places, from) ? 1 << to : 0;
                    wider |= has(places, to) ? 1 << from : 0;
                }
            }
            return wider;
        }

        int doubtOfAll() {
            int doubt = 0;
            for (int one = 0; one < ONES; one++) {
                doubt += isThere(one) ? doubtOf.get(one) : 0;
            }
            return doubt;
        }

        int reasonAgainst(int kind, int one, int target) {
            if (kind == QUAKES) {
                return NO_REASON;
            }
            if (kind == ENDS_YEAR) {
                return year >= LAST_YEAR ? NO_MORE_YEARS : NO_REASON;
            }
            if (!isThere(one)) {
                return NOBODY;
            }
            if (kind == CLIMBS) {
                return stands(target) ? NO_REASON : NO_WALL;
            }
            if (kind == CONVERTS) {
                return creedOf.get(one) == target ? SAME_CREED : NO_REASON;
            }
            return doubtOf.get(one) >= MOST_DOUBT ? TOO_DOUBTFUL : NO_REASON;
        }

        /** Does an act that can be, and answers whether somebody falls by it. */
        boolean enact(int kind, int one, int target) {
            switch (kind) {
                case BUILDS:
                    build(one, target);
                    return false;
                case CLIMBS:
                    return tryWall(one, target);
                case CONVERTS:
                    creedOf.set(one, target);
                    doubtOf.set(one, 5);
                    return false;
                case QUAKES:
                    quake();
                    return false;
                default:
                    year++;
                    return false;
            }
        }

        private void build(int one, int wall) {
            walls |= 1 << wall;
            wallLean.set(wall, downFor(one));
            wallCreed.set(wall, creedOf.get(one));
        }

        private boolean tryWall(int one, int wall) {
            if (carries(wallLean.get(wall), one)) {
                doubtOf.set(one, Math.max(doubtOf.get(one) - 1, 0));
                return false;
            }
            int doubt = doubtOf.get(one) + 3;
            if (doubt > MOST_DOUBT) {
                creedOf.set(one, wallCreed.get(wall));
                doubt = 0;
            }
            doubtOf.set(one, doubt);
            return true;
        }

        private void quake() {
            for (int wall = 0; wall < WALLS; wall++) {
                if (Math.abs(wallLean.get(wall)) > bearing) {
                    walls &= ~(1 << wall);
                }
            }
        }
    }

    /** The signs of YEARS. Where an act ends is told by its last sign alone, if there is no FAULT. */
    private static final class Pad {
        private static final int FOR_ACT = 0, FOR_DEED = 1, FOR_WALL = 2, FOR_NOTHING = 3;

        final Row signs = new Row(MOST_SIGNS);
        int count = 0;

        boolean add(int sign) {
            if (count >= MOST_SIGNS) {
                return false;
            }
            signs.set(count, sign);
            count++;
            return true;
        }

        int faultPlace() {
            int room = FOR_ACT;
            for (int i = 0; i < count; i++) {
                room = roomBehind(signs.get(i), room);
                if (room == FOR_NOTHING) {
                    return i;
                }
            }
            return room == FOR_ACT ? NONE : count;
        }

        private static int roomBehind(int sign, int room) {
            if (room == FOR_ACT) {
                if (isOneSign(sign)) {
                    return FOR_DEED;
                }
                return sign == '*' || sign == '.' ? FOR_ACT : FOR_NOTHING;
            }
            if (isIn(sign, '0', '0' + WALLS - 1)) {
                return FOR_ACT;
            }
            if (room == FOR_WALL) {
                return FOR_NOTHING;
            }
            if (sign == '^') {
                return FOR_WALL;
            }
            return isCreedSign(sign) ? FOR_ACT : FOR_NOTHING;
        }

        private static boolean isOneSign(int sign) {
            return isIn(sign, 'A', 'A' + ONES - 1);
        }

        private static boolean isCreedSign(int sign) {
            return isIn(sign, 'x', 'x' + CREEDS - 1);
        }

        boolean endsAct(int i) {
            return !isOneSign(signs.get(i)) && signs.get(i) != '^';
        }

        int kindAt(int end) {
            int sign = signs.get(end);
            if (sign == '*') {
                return QUAKES;
            }
            if (sign == '.') {
                return ENDS_YEAR;
            }
            if (isCreedSign(sign)) {
                return CONVERTS;
            }
            return signs.get(end - 1) == '^' ? CLIMBS : BUILDS;
        }

        int oneAt(int end) {
            return signs.get(kindAt(end) == CLIMBS ? end - 2 : end - 1) - 'A';
        }

        int targetAt(int end) {
            return signs.get(end) - (isCreedSign(signs.get(end)) ? 'x' : '0');
        }
    }

    /** Acts told one by one upon a copy, so that what is now stays as it is. */
    private static final class Telling {
        final Valley outcome = new Valley();
        int acts = 0;
        int badAct = NONE;
        int reason = NONE;
        int firstFall = NONE;
        int firstFaller = NONE;
        int falls = 0;

        private void start(Valley from) {
            outcome.copyFrom(from);
            acts = 0;
            badAct = NONE;
            reason = NONE;
            firstFall = NONE;
            firstFaller = NONE;
            falls = 0;
        }

        /** Answers whether all of it can be done; stops at the first act that can not be. */
        boolean tellYears(Pad pad, Valley from) {
            start(from);
            if (pad.faultPlace() != NONE) {
                return false;
            }
            for (int end = 0; end < pad.count && badAct == NONE; end++) {
                if (pad.endsAct(end)) {
                    int against = tellAct(pad.kindAt(end), pad.oneAt(end), pad.targetAt(end));
                    if (against != NO_REASON) {
                        badAct = acts;
                        reason = against;
                    }
                }
            }
            return badAct == NONE;
        }

        void tellBook(int seed, int draws, Valley from) {
            start(from);
            int x = seed;
            for (int draw = 0; draw < draws; draw++) {
                x = (75 * x + 74) % 65537;
                int kind = kindDrawn(x % 8);
                tellAct(kind, x / 8 % ONES, kind == CONVERTS ? x / 56 % CREEDS : x / 56 % WALLS);
            }
        }

        private static int kindDrawn(int rest) {
            if (rest < 3) {
                return BUILDS;
            }
            if (rest < 6) {
                return CLIMBS;
            }
            return rest == 6 ? QUAKES : CONVERTS;
        }

        private int tellAct(int kind, int one, int target) {
            int against = outcome.reasonAgainst(kind, one, target);
            if (against != NO_REASON) {
                return against;
            }
            if (outcome.enact(kind, one, target)) {
                if (falls == 0) {
                    firstFall = acts;
                    firstFaller = one;
                }
                falls++;
            }
            acts++;
            return NO_REASON;
        }
    }

    /** What kin make of creeds, year by year, beside what is now. */
    private static final class Settling {
        final Row held = new Row(ONES);
        private final Row taken = new Row(ONES);
        private final Row passed = new Row(CREED_STATES / 32 + 1);
        int againYear = 0;
        int yearsBetween = 0;

        void start(Valley valley) {
            held.copyFrom(valley.creedOf);
        }

        void passYear(Valley valley) {
            for (int one = 0; one < ONES; one++) {
                taken.set(one, choiceOf(one, valley));
            }
            held.copyFrom(taken);
        }

        private int choiceOf(int one, Valley valley) {
            int choice = held.get(one);
            int kin = valley.isThere(one) ? valley.kinOf.get(one) & valley.people : 0;
            int most = holdersOf(choice, kin);
            for (int creed = 0; creed < CREEDS; creed++) {
                int holders = holdersOf(creed, kin);
                if (holders > most) {
                    most = holders;
                    choice = creed;
                }
            }
            return choice;
        }

        private int holdersOf(int creed, int set) {
            int holders = 0;
            for (int one = 0; one < ONES; one++) {
                holders += has(set, one) && held.get(one) == creed ? 1 : 0;
            }
            return holders;
        }

        /** Behind CREED_STATES years at most, since there are no more states than that. */
        void findAgain(Valley valley) {
            start(valley);
            passed.clear();
            for (int year = 0; year <= CREED_STATES; year++) {
                int state = heldAsNumber();
                if (has(passed.get(state / 32), state % 32)) {
                    againYear = year;
                    yearsBetween = yearsRound(state, valley);
                    return;
                }
                passed.set(state / 32, passed.get(state / 32) | 1 << state % 32);
                passYear(valley);
            }
        }

        /** From a state that comes again, so going on from it leads there. */
        private int yearsRound(int state, Valley valley) {
            for (int years = 1; years <= CREED_STATES; years++) {
                passYear(valley);
                if (heldAsNumber() == state) {
                    return years;
                }
            }
            return NONE;
        }

        private int heldAsNumber() {
            int code = 0;
            for (int one = 0; one < ONES; one++) {
                code = code * CREEDS + held.get(one);
            }
            return code;
        }
    }
}
