import java.math.BigInteger;
import java.util.ArrayList;
import java.util.HashSet;
import java.util.List;
import java.util.Set;
import java.util.TreeMap;
import java.util.TreeSet;
import java.util.regex.Matcher;
import java.util.regex.Pattern;

/** The document told a second time, slowly and by other means than the class: maps, lists, patterns, trying all. */
final class Model {
    private static final int NONE = -6, UNKNOWN = -1, OUTSIDE = -2, STATE = -3, FULL = -4, NO = -5;
    private static final Pattern ACT = Pattern.compile("([A-G])(\\^?)([0-7]|[xyz])|[*.]");
    private static final String WHOLE = "([A-G](\\^?[0-7]|[xyz])|[*.])*";
    private static final String BEGUN = WHOLE + "([A-G]\\^?)?";

    /** All but the PAD. */
    private static final class World {
        final int[] down = {-3, 0, 3};
        int bear = 3;
        int year = 0;
        final TreeMap<Integer, int[]> ones = new TreeMap<>();
        final Set<Set<Integer>> kin = new HashSet<>();
        final TreeMap<Integer, int[]> walls = new TreeMap<>();
        final TreeMap<Integer, int[]> stairs = new TreeMap<>();
        final List<int[]> sights = new ArrayList<>();

        World copy() {
            World copy = new World();
            System.arraycopy(down, 0, copy.down, 0, 3);
            copy.bear = bear;
            copy.year = year;
            ones.forEach((one, as) -> copy.ones.put(one, as.clone()));
            copy.kin.addAll(kin);
            walls.forEach((wall, as) -> copy.walls.put(wall, as.clone()));
            stairs.forEach((stair, as) -> copy.stairs.put(stair, as.clone()));
            copy.sights.addAll(sights);
            return copy;
        }

        boolean carries(int lean, int one) {
            int difference = lean - down[ones.get(one)[0]];
            return difference <= bear && -difference <= bear;
        }
    }

    /** YEARS or a book as they come out: the world then, and what was noted on the way. */
    private static final class Story {
        final World world;
        final List<int[]> falls = new ArrayList<>();
        int acts = 0;
        int why = 0;

        Story(World from) {
            world = from.copy();
        }

        /** The act as text, so that the book goes another way here than in the class. */
        boolean act(String act) {
            why = whyNot(act);
            if (why != 0) {
                return false;
            }
            if (act.equals("*")) {
                world.walls.values().removeIf(as -> Math.abs(as[0]) > world.bear);
            } else if (act.equals(".")) {
                world.year++;
            } else {
                actOf(act.charAt(0) - 'A', act.substring(1));
            }
            acts++;
            return true;
        }

        private int whyNot(String act) {
            if (act.equals("*")) {
                return 0;
            }
            if (act.equals(".")) {
                return world.year == 99 ? 5 : 0;
            }
            int[] him = world.ones.get(act.charAt(0) - 'A');
            char last = act.charAt(act.length() - 1);
            if (him == null) {
                return 1;
            }
            if (act.length() == 3) {
                return world.walls.containsKey(last - '0') ? 0 : 2;
            }
            if (last >= 'x') {
                return him[0] == last - 'x' ? 3 : 0;
            }
            return him[1] == 9 ? 4 : 0;
        }

        private void actOf(int one, String deed) {
            int[] him = world.ones.get(one);
            if (deed.charAt(0) >= 'x') {
                him[0] = deed.charAt(0) - 'x';
                him[1] = 5;
            } else if (deed.length() == 1) {
                world.walls.put(deed.charAt(0) - '0', new int[] {world.down[him[0]], him[0]});
            } else {
                int[] wall = world.walls.get(deed.charAt(1) - '0');
                if (world.carries(wall[0], one)) {
                    him[1] = him[1] == 0 ? 0 : him[1] - 1;
                    return;
                }
                falls.add(new int[] {acts, one});
                him[1] += 3;
                if (him[1] >= 10) {
                    him[0] = wall[1];
                    him[1] = 0;
                }
            }
        }
    }

    private World now = new World();
    private final World[] images = new World[2];
    private String pad = "";

    private static boolean in(long number, long least, long most) {
        return least <= number && number <= most;
    }

    int creed(int creed, int down) {
        if (!in(creed, 0, 2)) return UNKNOWN;
        if (!in(down, -9, 9)) return OUTSIDE;
        int was = now.down[creed] + 10;
        now.down[creed] = down;
        return was;
    }

    int bear(int v) {
        if (!in(v, 0, 18)) return OUTSIDE;
        int was = now.bear;
        now.bear = v;
        return was;
    }

    int one(int one, int creed, int doubt) {
        if (!in(one, 0, 6)) return UNKNOWN;
        if (!in(creed, 0, 2) || !in(doubt, 0, 9)) return OUTSIDE;
        now.ones.put(one, new int[] {creed, doubt});
        return now.ones.size();
    }

    int leave(int one) {
        return now.ones.remove(one) == null ? UNKNOWN : now.ones.size();
    }

    int kin(int one, int other, boolean is) {
        if (!in(one, 0, 6) || !in(other, 0, 6) || one == other) return UNKNOWN;
        Set<Integer> two = Set.of(one, other);
        if (is) {
            now.kin.add(two);
        } else {
            now.kin.remove(two);
        }
        return now.kin.size();
    }

    int stair(int stair, int from, int to, int lean) {
        if (!in(stair, 0, 11)) return UNKNOWN;
        if (!in(from, 0, 9) || !in(to, 0, 9) || from == to || !in(lean, -9, 9)) return OUTSIDE;
        now.stairs.put(stair, new int[] {from, to, lean});
        return now.stairs.size();
    }

    int say(int sign) {
        if (!in(sign, 33, 126)) return OUTSIDE;
        if (pad.length() == 60) return FULL;
        pad += (char) sign;
        return pad.length();
    }

    int wipe() {
        int had = pad.length();
        pad = "";
        return had;
    }

    int fault() {
        for (int i = 0; i < pad.length(); i++) {
            if (!pad.substring(0, i + 1).matches(BEGUN)) return i;
        }
        return pad.matches(WHOLE) ? NONE : pad.length();
    }

    /** Behind it why tells whether the last act asked could not be. */
    private Story years() {
        Story story = new Story(now);
        Matcher acts = ACT.matcher(pad);
        while (acts.find() && story.act(acts.group())) {
            continue;
        }
        return story;
    }

    private Story whole() {
        if (fault() != NONE) return null;
        Story story = years();
        return story.why == 0 ? story : null;
    }

    int judge(int what) {
        if (!in(what, 0, 1)) return OUTSIDE;
        if (fault() != NONE) return NO;
        Story story = years();
        if (story.why == 0) return NONE;
        return what == 0 ? story.acts : story.why;
    }

    int done() {
        Story story = whole();
        if (story == null) return NO;
        now = story.world;
        pad = "";
        return story.acts;
    }

    int behind(int one, int what) {
        if (!now.ones.containsKey(one)) return UNKNOWN;
        if (!in(what, 0, 1)) return OUTSIDE;
        Story story = whole();
        return story == null ? NO : story.world.ones.get(one)[what];
    }

    int wall(int wall, int what) {
        if (!in(wall, 0, 7)) return UNKNOWN;
        if (!in(what, 0, 1)) return OUTSIDE;
        Story story = whole();
        if (story == null) return NO;
        int[] as = story.world.walls.get(wall);
        if (as == null) return NONE;
        return what == 0 ? as[0] + 10 : as[1];
    }

    int fell(int what) {
        if (!in(what, 0, 3)) return OUTSIDE;
        Story story = whole();
        if (story == null) return NO;
        if (what == 2) return story.falls.size();
        if (what == 3) return story.world.year;
        return story.falls.isEmpty() ? NONE : story.falls.get(0)[what];
    }

    int bears(int one) {
        if (!now.ones.containsKey(one)) return UNKNOWN;
        int bits = 0;
        for (int wall : now.walls.keySet()) {
            if (now.carries(now.walls.get(wall)[0], one)) bits += 1 << wall;
        }
        return bits;
    }

    private TreeSet<Integer> group(int set) {
        if (!in(set, 0, 127)) return null;
        TreeSet<Integer> group = new TreeSet<>();
        for (int one = 0; one < 7; one++) {
            if (set / (1 << one) % 2 == 1) group.add(one);
        }
        return now.ones.keySet().containsAll(group) ? group : null;
    }

    private TreeSet<Integer> leans(TreeSet<Integer> group) {
        TreeSet<Integer> leans = new TreeSet<>();
        for (int lean = -9; lean <= 9; lean++) {
            boolean all = true;
            for (int one : group) {
                all = all && now.carries(lean, one);
            }
            if (all) leans.add(lean);
        }
        return leans;
    }

    int all(int set, int what) {
        TreeSet<Integer> group = group(set);
        if (group == null) return UNKNOWN;
        if (!in(what, 0, 1)) return OUTSIDE;
        TreeSet<Integer> leans = leans(group);
        if (what == 0) return leans.size();
        return leans.isEmpty() ? NONE : leans.first() + 10;
    }

    int wedges(int wall, int set, int what) {
        TreeSet<Integer> group = group(set);
        if (!now.walls.containsKey(wall) || group == null) return UNKNOWN;
        if (!in(what, 0, 1)) return OUTSIDE;
        int lean = now.walls.get(wall)[0];
        TreeSet<Integer> leans = leans(group);
        for (int few = 0; few <= 18; few++) {
            if (leans.contains(lean - few)) return what == 0 ? few : lean - few + 10;
            if (leans.contains(lean + few)) return what == 0 ? few : lean + few + 10;
        }
        return NONE;
    }

    int meet(int one, int other, int n, int what) {
        if (!now.ones.containsKey(one) || !now.ones.containsKey(other)) return UNKNOWN;
        if (!in(n, 0, 40) || !in(what, 0, 1)) return OUTSIDE;
        TreeMap<Integer, Integer> steps = new TreeMap<>();
        for (int k = n; k >= 0; k--) {
            steps.put(Math.abs(k * now.down[now.ones.get(one)[0]] - (n - k) * now.down[now.ones.get(other)[0]]), k);
        }
        return what == 0 ? steps.firstKey() : steps.firstEntry().getValue();
    }

    /** By all places between, as Floyd and Warshall do; 99 is too far. */
    private int[][] distances(int one) {
        int[][] far = new int[10][10];
        for (int from = 0; from < 10; from++) {
            for (int to = 0; to < 10; to++) {
                far[from][to] = from == to ? 0 : 99;
            }
        }
        for (int[] stair : now.stairs.values()) {
            if (now.carries(stair[2], one)) {
                far[stair[0]][stair[1]] = 1;
                far[stair[1]][stair[0]] = 1;
            }
        }
        for (int by = 0; by < 10; by++) {
            for (int from = 0; from < 10; from++) {
                for (int to = 0; to < 10; to++) {
                    far[from][to] = Math.min(far[from][to], far[from][by] + far[by][to]);
                }
            }
        }
        return far;
    }

    int ways(int one, int from, int to, int what) {
        if (!now.ones.containsKey(one)) return UNKNOWN;
        if (!in(from, 0, 9) || !in(to, 0, 9) || !in(what, 0, 1)) return OUTSIDE;
        int[][] far = distances(one);
        if (far[from][to] >= 99) return NONE;
        if (what == 0) return far[from][to];
        for (int place = 0; place < 10; place++) {
            if (far[from][place] == 1 && far[place][to] + 1 == far[from][to]) return place;
        }
        return NONE;
    }

    int reach(int one, int from) {
        if (!now.ones.containsKey(one)) return UNKNOWN;
        if (!in(from, 0, 9)) return OUTSIDE;
        int bits = 0;
        for (int place = 0; place < 10; place++) {
            if (distances(one)[from][place] < 99) bits += 1 << place;
        }
        return bits;
    }

    int seen(int lean, int how) {
        if (!in(lean, -9, 9) || !in(how, 0, 2)) return OUTSIDE;
        if (now.sights.size() == 8) return FULL;
        now.sights.add(new int[] {lean, how});
        return now.sights.size();
    }

    int forget() {
        int had = now.sights.size();
        now.sights.clear();
        return had;
    }

    private List<Integer> held() {
        List<Integer> held = new ArrayList<>();
        for (int down = -9; down <= 9; down++) {
            boolean fits = true;
            for (int[] sight : now.sights) {
                fits = fits && Integer.compare(down, sight[0]) + 1 == sight[1];
            }
            if (fits) held.add(down);
        }
        return held;
    }

    int downs(int i) {
        List<Integer> held = held();
        if (i == -1) return held.size();
        return in(i, 0, held.size() - 1) ? held.get(i) + 10 : NONE;
    }

    int next(int what) {
        if (!in(what, 0, 1)) return OUTSIDE;
        List<Integer> held = held();
        if (held.isEmpty()) return NONE;
        int best = 0;
        int fewest = 99;
        for (int lean = 9; lean >= -9; lean--) {
            int[] left = new int[3];
            for (int down : held) {
                left[Integer.compare(down, lean) + 1]++;
            }
            int most = Math.max(left[0], Math.max(left[1], left[2]));
            if (most <= fewest) {
                fewest = most;
                best = lean;
            }
        }
        return what == 0 ? best + 10 : fewest;
    }

    private TreeMap<Integer, Integer> creeds() {
        TreeMap<Integer, Integer> creeds = new TreeMap<>();
        now.ones.forEach((one, as) -> creeds.put(one, as[0]));
        return creeds;
    }

    private TreeMap<Integer, Integer> yearBehind(TreeMap<Integer, Integer> creeds) {
        TreeMap<Integer, Integer> behind = new TreeMap<>();
        for (int one : creeds.keySet()) {
            int[] votes = new int[3];
            for (int other : creeds.keySet()) {
                if (one != other && now.kin.contains(Set.of(one, other))) votes[creeds.get(other)]++;
            }
            int most = Math.max(votes[0], Math.max(votes[1], votes[2]));
            int least = votes[0] == most ? 0 : votes[1] == most ? 1 : 2;
            behind.put(one, votes[creeds.get(one)] == most ? creeds.get(one) : least);
        }
        return behind;
    }

    int settle(int one, int n) {
        if (!now.ones.containsKey(one)) return UNKNOWN;
        if (!in(n, 0, 60)) return OUTSIDE;
        TreeMap<Integer, Integer> creeds = creeds();
        for (int year = 0; year < n; year++) {
            creeds = yearBehind(creeds);
        }
        return creeds.get(one);
    }

    int again(int what) {
        if (!in(what, 0, 1)) return OUTSIDE;
        List<TreeMap<Integer, Integer>> past = new ArrayList<>();
        TreeMap<Integer, Integer> creeds = creeds();
        while (!past.contains(creeds)) {
            past.add(creeds);
            creeds = yearBehind(creeds);
        }
        return what == 0 ? past.size() : past.size() - past.indexOf(creeds);
    }

    /** What one has in the mean, times 10 to the power of the floors yet to come. */
    private static BigInteger mean(long v, int m, int w, int t, boolean mayStay) {
        BigInteger stays = BigInteger.TEN.pow(m).multiply(BigInteger.valueOf(v));
        if (m == 0) return stays;
        BigInteger climbs = mean(v + w, m - 1, w, t, true).multiply(BigInteger.valueOf(10 - t));
        return mayStay ? climbs.max(stays) : climbs;
    }

    long climb(int v, int m, int w, int t, int what, int part) {
        if (!in(v, 0, 99) || !in(m, 0, 8) || !in(w, 1, 9) || !in(t, 0, 10) || !in(what, 0, 1) || !in(part, 0, 1)) {
            return -1000000000000000000L + OUTSIDE;
        }
        BigInteger lower = BigInteger.TEN.pow(m);
        if (what == 1) {
            return m > 0 && mean(v, m, w, t, false).compareTo(lower.multiply(BigInteger.valueOf(v))) > 0 ? 1 : 0;
        }
        BigInteger upper = mean(v, m, w, t, true);
        BigInteger common = upper.gcd(lower);
        return (part == 0 ? upper : lower).divide(common).longValueExact();
    }

    int book(int seed, int m, int what) {
        if (!in(seed, 0, 9999) || !in(m, 1, 99) || !in(what, 0, 2)) return OUTSIDE;
        Story story = new Story(now);
        long x = seed;
        for (int draw = 0; draw < m; draw++) {
            x = (75 * x + 74) % 65537;
            String one = "" + (char) ('A' + x / 8 % 7);
            long wall = x / 56 % 8;
            String[] acts = {one + wall, one + wall, one + wall, one + "^" + wall, one + "^" + wall, one + "^" + wall,
                "*", one + "xyz".charAt((int) (x / 56 % 3))};
            story.act(acts[(int) (x % 8)]);
        }
        int doubt = 0;
        for (int[] as : story.world.ones.values()) {
            doubt += as[1];
        }
        return what == 0 ? story.world.walls.size() : what == 1 ? story.falls.size() : doubt;
    }

    int image(int n) {
        if (!in(n, 0, 1)) return OUTSIDE;
        images[n] = now.copy();
        return 1;
    }

    int restore(int n) {
        if (!in(n, 0, 1)) return OUTSIDE;
        if (images[n] == null) return STATE;
        now = images[n].copy();
        return 1;
    }

    private static int bits(Set<Integer> numbers) {
        int bits = 0;
        for (int number : numbers) {
            bits += 1 << number;
        }
        return bits;
    }

    int told(int what) {
        TreeMap<Integer, Integer> answers = new TreeMap<>();
        answers.put(0, pad.length());
        answers.put(1, bits(now.ones.keySet()));
        answers.put(2, bits(now.walls.keySet()));
        answers.put(3, now.bear);
        answers.put(4, now.year);
        answers.put(5, now.sights.size());
        answers.put(6, bits(now.stairs.keySet()));
        for (int creed = 0; creed < 3; creed++) {
            answers.put(10 + creed, now.down[creed] + 10);
        }
        now.ones.forEach((one, as) -> {
            answers.put(20 * (1 + one), as[0]);
            answers.put(20 * (1 + one) + 1, as[1]);
        });
        now.walls.forEach((wall, as) -> {
            answers.put(200 + 10 * wall, as[0] + 10);
            answers.put(200 + 10 * wall + 1, as[1]);
        });
        now.stairs.forEach((stair, as) -> answers.put(300 + stair, 1000 * as[0] + 100 * as[1] + as[2] + 10));
        return answers.getOrDefault(what, OUTSIDE);
    }
}
