/** The boundary cases of promises 17 to 21, a test each. */
public final class EdgeLeansTest {
    private static final int NONE = PlumbCreeds.NONE, UNKNOWN = PlumbCreeds.UNKNOWN, OUTSIDE = PlumbCreeds.OUTSIDE;

    public static void main(String[] args) {
        promise17Nobody();
        promise17AllSeven();
        promise17LeastAndGreatestBear();
        promise17NoLean();
        promise17CutAtTheEnds();
        promise17Refused();
        promise17FirstRefusal();
        promise18Nobody();
        promise18AllSeven();
        promise18NoWedges();
        promise18MostWedges();
        promise18AtTheEnds();
        promise18NoLean();
        promise18Refused();
        promise18FirstRefusal();
        promise19NoSpans();
        promise19MostSpans();
        promise19SameOne();
        promise19LeastOfSeveral();
        promise19Refused();
        promise19FirstRefusal();
        promise20NoStairs();
        promise20SamePlace();
        promise20MostStairs();
        promise20NoWay();
        promise20BearAtMost();
        promise20LeastPlace();
        promise20SeveralStairsAlike();
        promise20Refused();
        promise20FirstRefusal();
        promise21NoStairs();
        promise21AllPlaces();
        promise21BearAtMost();
        promise21Refused();
        promise21FirstRefusal();
        questionsDoNothing();
        Due.end("EdgeLeansTest");
    }

    private static PlumbCreeds seven() {
        PlumbCreeds x = new PlumbCreeds();
        for (int one = 0; one < 7; one++) {
            x.one(one, one % 3, one);
        }
        return x;
    }

    private static void borne(PlumbCreeds x, int set, int many, int least) {
        Due.is("all(" + set + ", 0)", x.all(set, 0), many);
        Due.is("all(" + set + ", 1)", x.all(set, 1), least);
    }

    private static void promise17Nobody() {
        borne(new PlumbCreeds(), 0, 19, 1);
        PlumbCreeds x = Due.three();
        x.bear(0);
        borne(x, 0, 19, 1);
    }

    private static void promise17AllSeven() {
        PlumbCreeds x = seven();
        borne(x, 127, 1, 10);
        x.bear(4);
        borne(x, 127, 3, 9);
        x.bear(18);
        borne(x, 127, 19, 1);
        x.leave(6);
        Due.is("all(127, 0) behind leave(6)", x.all(127, 0), UNKNOWN);
        borne(x, 63, 19, 1);
    }

    private static void promise17LeastAndGreatestBear() {
        PlumbCreeds x = Due.three();
        x.creed(0, -9);
        x.creed(2, 9);
        x.bear(0);
        borne(x, 1, 1, 1);
        borne(x, 4, 1, 19);
        borne(x, 5, 0, NONE);
        x.bear(8);
        borne(x, 5, 0, NONE);
        x.bear(9);
        borne(x, 5, 1, 10);
        x.bear(17);
        borne(x, 1, 18, 1);
        borne(x, 4, 18, 2);
        x.bear(18);
        borne(x, 1, 19, 1);
        borne(x, 4, 19, 1);
    }

    private static void promise17NoLean() {
        PlumbCreeds x = Due.three();
        x.bear(2);
        borne(x, 7, 0, NONE);
        borne(x, 5, 0, NONE);
        borne(x, 3, 2, 8);
        borne(x, 6, 2, 11);
    }

    private static void promise17CutAtTheEnds() {
        PlumbCreeds x = Due.three();
        x.creed(0, -7);
        x.creed(2, 7);
        borne(x, 1, 6, 1);
        borne(x, 4, 6, 14);
        x.creed(0, -6);
        x.creed(2, 6);
        borne(x, 1, 7, 1);
        borne(x, 4, 7, 13);
        x.creed(0, -5);
        borne(x, 1, 7, 2);
    }

    private static void promise17Refused() {
        Edge.refused("all(n, 0)", 0, 127, UNKNOWN, (x, n) -> x.all(n, 0));
        Edge.refused("all(7, n)", 0, 1, OUTSIDE, (x, n) -> x.all(7, n));
        Edge.refused("all(0, n)", 0, 1, OUTSIDE, (x, n) -> x.all(0, n));
        for (int set : new int[] {8, 32, 64, 9, 31, 127, 128 + 1, 256, -128}) {
            Edge.refusedAt("all(n, 1), one is not there", set, UNKNOWN, (x, n) -> x.all(n, 1));
        }
        PlumbCreeds x = seven();
        for (int set : new int[] {-1, 128, 255, Integer.MIN_VALUE, Integer.MAX_VALUE}) {
            Due.is("all(" + set + ", 0), all seven there", x.all(set, 0), UNKNOWN);
        }
    }

    private static void promise17FirstRefusal() {
        Edge.refused("all(n, 2)", 0, 127, UNKNOWN, (x, n) -> x.all(n, 2));
        Edge.refused("all(8, n)", 0, 1, UNKNOWN, (x, n) -> x.all(8, n));
    }

    private static void wedged(PlumbCreeds x, int wall, int set, int many, int lean) {
        Due.is("wedges(" + wall + ", " + set + ", 0)", x.wedges(wall, set, 0), many);
        Due.is("wedges(" + wall + ", " + set + ", 1)", x.wedges(wall, set, 1), lean);
    }

    private static void promise18Nobody() {
        PlumbCreeds x = Due.three();
        x.creed(0, -9);
        x.creed(2, 9);
        Due.carryOut(x, "A0B3C7", 3);
        x.bear(0);
        wedged(x, 0, 0, 0, 1);
        wedged(x, 3, 0, 0, 10);
        wedged(x, 7, 0, 0, 19);
    }

    private static void promise18AllSeven() {
        PlumbCreeds x = seven();
        Due.carryOut(x, "A0B1C2", 3);
        wedged(x, 0, 127, 3, 10);
        wedged(x, 1, 127, 0, 10);
        wedged(x, 2, 127, 3, 10);
        x.bear(5);
        wedged(x, 0, 127, 1, 8);
        wedged(x, 2, 127, 1, 12);
        x.bear(2);
        wedged(x, 0, 127, NONE, NONE);
    }

    private static void promise18NoWedges() {
        PlumbCreeds x = Due.three();
        Due.carryOut(x, "B0", 1);
        wedged(x, 0, 1, 0, 10);
        wedged(x, 0, 4, 0, 10);
        x.bear(2);
        wedged(x, 0, 1, 1, 9);
        wedged(x, 0, 4, 1, 11);
    }

    private static void promise18MostWedges() {
        PlumbCreeds x = Due.three();
        x.creed(0, -9);
        x.creed(2, 9);
        Due.carryOut(x, "A0C1", 2);
        x.bear(0);
        wedged(x, 0, 4, 18, 19);
        wedged(x, 1, 1, 18, 1);
        x.bear(18);
        wedged(x, 0, 4, 0, 1);
        wedged(x, 1, 1, 0, 19);
        x.bear(17);
        wedged(x, 0, 4, 1, 2);
        wedged(x, 1, 1, 1, 18);
    }

    /** Of those who lean beyond the ends' reach, only LEANS from -9 to 9 count. */
    private static void promise18AtTheEnds() {
        PlumbCreeds x = Due.three();
        x.creed(0, -9);
        x.creed(2, -8);
        Due.carryOut(x, "A0C1", 2);
        wedged(x, 0, 5, 0, 1);
        wedged(x, 1, 5, 0, 2);
        wedged(x, 0, 2, 6, 7);
        wedged(x, 1, 2, 5, 7);
        x.bear(0);
        wedged(x, 0, 4, 1, 2);
        wedged(x, 1, 1, 1, 1);
    }

    private static void promise18NoLean() {
        PlumbCreeds x = Due.three();
        Due.carryOut(x, "A0", 1);
        x.bear(0);
        wedged(x, 0, 5, NONE, NONE);
        wedged(x, 0, 1, 0, 7);
        x.creed(2, -3);
        wedged(x, 0, 5, 0, 7);
    }

    private static void promise18Refused() {
        Edge.refused("wedges(n, 1, 0)", 0, 7, UNKNOWN, (x, n) -> x.wedges(n, 1, 0));
        for (int wall : new int[] {1, 2, 4, 5, 6, 7}) {
            Edge.refusedAt("wedges(n, 1, 0), which does not stand", wall, UNKNOWN, (x, n) -> x.wedges(n, 1, 0));
        }
        Edge.refused("wedges(0, n, 0)", 0, 127, UNKNOWN, (x, n) -> x.wedges(0, n, 0));
        for (int set : new int[] {8, 32, 64, 15, 127, 128 + 1, -128}) {
            Edge.refusedAt("wedges(0, n, 1), one is not there", set, UNKNOWN, (x, n) -> x.wedges(0, n, 1));
        }
        Edge.refused("wedges(0, 1, n)", 0, 1, OUTSIDE, (x, n) -> x.wedges(0, 1, n));
        Edge.refused("wedges(0, 0, n)", 0, 1, OUTSIDE, (x, n) -> x.wedges(0, 0, n));
        PlumbCreeds x = Due.three();
        x.bear(0);
        Due.carryOut(x, "A0", 1);
        Due.is("wedges(0, 5, 2), where there are none", x.wedges(0, 5, 2), OUTSIDE);
    }

    private static void promise18FirstRefusal() {
        Edge.refused("wedges(n, 1, 2)", 0, 7, UNKNOWN, (x, n) -> x.wedges(n, 1, 2));
        Edge.refusedAt("wedges(n, 1, 2), which does not stand", 5, UNKNOWN, (x, n) -> x.wedges(n, 1, 2));
        Edge.refused("wedges(0, n, 2)", 0, 127, UNKNOWN, (x, n) -> x.wedges(0, n, 2));
        Edge.refused("wedges(0, 8, n)", 0, 1, UNKNOWN, (x, n) -> x.wedges(0, 8, n));
        Edge.refused("wedges(5, 1, n)", 0, 1, UNKNOWN, (x, n) -> x.wedges(5, 1, n));
    }

    private static void met(PlumbCreeds x, int one, int other, int n, int step, int k) {
        String call = "meet(" + one + ", " + other + ", " + n + ", ";
        Due.is(call + "0)", x.meet(one, other, n, 0), step);
        Due.is(call + "1)", x.meet(one, other, n, 1), k);
    }

    private static void promise19NoSpans() {
        met(Due.three(), 0, 1, 0, 0, 0);
        met(Due.three(), 0, 2, 0, 0, 0);
        met(Due.three(), 2, 2, 0, 0, 0);
        met(Due.three(), 0, 2, 1, 3, 0);
        met(Due.three(), 0, 1, 1, 0, 0);
        met(Due.three(), 1, 0, 1, 0, 1);
    }

    private static void promise19MostSpans() {
        PlumbCreeds x = Due.three();
        x.creed(0, -9);
        x.creed(2, 9);
        met(x, 0, 2, 40, 360, 0);
        met(x, 2, 0, 40, 360, 0);
        met(x, 0, 1, 40, 0, 0);
        met(x, 1, 2, 40, 0, 40);
        x.creed(1, 8);
        met(x, 2, 1, 40, 3, 19);
        met(x, 1, 2, 40, 3, 21);
        met(x, 0, 1, 40, 320, 0);
        met(x, 1, 0, 40, 320, 40);
    }

    private static void promise19SameOne() {
        PlumbCreeds x = Due.three();
        met(x, 0, 0, 40, 0, 20);
        met(x, 0, 0, 39, 3, 19);
        met(x, 2, 2, 1, 3, 0);
        met(x, 1, 1, 39, 0, 0);
    }

    private static void promise19LeastOfSeveral() {
        PlumbCreeds x = Due.three();
        x.creed(0, 2);
        x.creed(2, 2);
        met(x, 0, 2, 3, 2, 1);
        met(x, 0, 0, 5, 2, 2);
        x.creed(0, 0);
        x.creed(2, 0);
        met(x, 0, 2, 40, 0, 0);
    }

    private static void promise19Refused() {
        Edge.refused("meet(n, 0, 4, 0)", 0, 6, UNKNOWN, (x, n) -> x.meet(n, 0, 4, 0));
        Edge.refused("meet(0, n, 4, 0)", 0, 6, UNKNOWN, (x, n) -> x.meet(0, n, 4, 0));
        for (int one : new int[] {3, 5, 6}) {
            Edge.refusedAt("meet(n, 0, 4, 0), who is not there", one, UNKNOWN, (x, n) -> x.meet(n, 0, 4, 0));
            Edge.refusedAt("meet(0, n, 4, 0), who is not there", one, UNKNOWN, (x, n) -> x.meet(0, n, 4, 0));
            Edge.refusedAt("meet(n, n, 4, 0), who is not there", one, UNKNOWN, (x, n) -> x.meet(n, n, 4, 0));
        }
        Edge.refused("meet(0, 1, n, 0)", 0, 40, OUTSIDE, (x, n) -> x.meet(0, 1, n, 0));
        Edge.taken("meet(0, 1, n, 0)", 0, 40, (x, n) -> x.meet(0, 1, n, 0));
        Edge.refused("meet(0, 1, 4, n)", 0, 1, OUTSIDE, (x, n) -> x.meet(0, 1, 4, n));
    }

    private static void promise19FirstRefusal() {
        Edge.refused("meet(n, 0, 41, 0)", 0, 6, UNKNOWN, (x, n) -> x.meet(n, 0, 41, 0));
        Edge.refused("meet(0, n, 4, 2)", 0, 6, UNKNOWN, (x, n) -> x.meet(0, n, 4, 2));
        Edge.refused("meet(3, 0, n, 0)", 0, 40, UNKNOWN, (x, n) -> x.meet(3, 0, n, 0));
        Edge.refused("meet(0, 3, 4, n)", 0, 1, UNKNOWN, (x, n) -> x.meet(0, 3, 4, n));
    }

    private static void walked(PlumbCreeds x, int one, int from, int to, int stairs, int place) {
        String call = "ways(" + one + ", " + from + ", " + to + ", ";
        Due.is(call + "0)", x.ways(one, from, to, 0), stairs);
        Due.is(call + "1)", x.ways(one, from, to, 1), place);
    }

    private static void promise20NoStairs() {
        PlumbCreeds x = Due.three();
        walked(x, 0, 0, 9, NONE, NONE);
        walked(x, 0, 9, 0, NONE, NONE);
        walked(x, 2, 3, 4, NONE, NONE);
    }

    private static void promise20SamePlace() {
        PlumbCreeds x = Due.three();
        walked(x, 0, 0, 0, 0, NONE);
        walked(x, 0, 9, 9, 0, NONE);
        x.stair(0, 0, 9, 0);
        walked(x, 0, 0, 0, 0, NONE);
        walked(x, 0, 9, 9, 0, NONE);
    }

    /** A row of places through all ten. */
    private static PlumbCreeds row() {
        PlumbCreeds x = Due.three();
        int[] places = {4, 9, 0, 7, 2, 5, 8, 1, 6, 3};
        for (int stair = 0; stair < 9; stair++) {
            x.stair(11 - stair, places[stair], places[stair + 1], 0);
        }
        return x;
    }

    private static void promise20MostStairs() {
        PlumbCreeds x = row();
        walked(x, 0, 4, 3, 9, 9);
        walked(x, 0, 3, 4, 9, 6);
        walked(x, 0, 9, 3, 8, 0);
        walked(x, 0, 4, 9, 1, 9);
        x.stair(0, 4, 3, 0);
        walked(x, 0, 4, 3, 1, 3);
        walked(x, 0, 3, 4, 1, 4);
        walked(x, 0, 4, 2, 4, 9);
        walked(x, 0, 4, 5, 5, 3);
    }

    private static void promise20NoWay() {
        PlumbCreeds x = row();
        x.stair(6, 4, 9, 0);
        walked(x, 0, 4, 3, NONE, NONE);
        walked(x, 0, 4, 9, 1, 9);
        walked(x, 0, 3, 4, NONE, NONE);
        walked(x, 0, 3, 8, 3, 6);
        x.bear(2);
        walked(x, 0, 4, 9, NONE, NONE);
        walked(x, 1, 4, 9, 1, 9);
        walked(x, 0, 4, 4, 0, NONE);
    }

    private static void promise20BearAtMost() {
        int[] leans = {-7, -6, 0, 1};
        int[] due = {NONE, 1, 1, NONE};
        for (int i = 0; i < leans.length; i++) {
            PlumbCreeds x = Due.three();
            x.stair(11, 8, 9, leans[i]);
            Due.is("ways by a lean of " + leans[i], x.ways(0, 8, 9, 0), due[i]);
            Due.is("and back", x.ways(0, 9, 8, 0), due[i]);
        }
        PlumbCreeds x = Due.three();
        x.creed(0, -9);
        x.stair(0, 0, 1, 9);
        x.bear(17);
        walked(x, 0, 0, 1, NONE, NONE);
        x.bear(18);
        walked(x, 0, 0, 1, 1, 1);
        x.bear(0);
        x.stair(0, 0, 1, -9);
        walked(x, 0, 0, 1, 1, 1);
        walked(x, 1, 0, 1, NONE, NONE);
    }

    private static void promise20LeastPlace() {
        PlumbCreeds x = Due.three();
        x.stair(0, 5, 8, 0);
        x.stair(1, 8, 9, 0);
        walked(x, 0, 5, 9, 2, 8);
        x.stair(2, 5, 6, 0);
        x.stair(3, 9, 6, 0);
        walked(x, 0, 5, 9, 2, 6);
        x.stair(4, 0, 5, 0);
        walked(x, 0, 5, 9, 2, 6);
        x.stair(5, 0, 9, 3);
        walked(x, 0, 5, 9, 2, 6);
        walked(x, 1, 5, 9, 2, 0);
        x.stair(6, 1, 5, 0);
        x.stair(7, 1, 0, 0);
        walked(x, 1, 5, 9, 2, 0);
        walked(x, 1, 9, 5, 2, 0);
    }

    private static void promise20SeveralStairsAlike() {
        PlumbCreeds x = Due.three();
        x.stair(0, 2, 3, 9);
        x.stair(1, 3, 2, -9);
        walked(x, 0, 2, 3, NONE, NONE);
        x.stair(2, 3, 2, -3);
        walked(x, 0, 2, 3, 1, 3);
        for (int stair = 0; stair < 12; stair++) {
            x.stair(stair, 3, 2, 0);
        }
        walked(x, 0, 2, 3, 1, 3);
        walked(x, 0, 2, 4, NONE, NONE);
    }

    private static void promise20Refused() {
        Edge.refused("ways(n, 0, 1, 0)", 0, 6, UNKNOWN, (x, n) -> x.ways(n, 0, 1, 0));
        Edge.refusedAt("ways(n, 0, 1, 0), who is not there", 3, UNKNOWN, (x, n) -> x.ways(n, 0, 1, 0));
        Edge.refused("ways(0, n, 1, 0)", 0, 9, OUTSIDE, (x, n) -> x.ways(0, n, 1, 0));
        Edge.refused("ways(0, 1, n, 0)", 0, 9, OUTSIDE, (x, n) -> x.ways(0, 1, n, 0));
        Edge.refused("ways(0, n, n, 0)", 0, 9, OUTSIDE, (x, n) -> x.ways(0, n, n, 0));
        Edge.refused("ways(0, 0, 1, n)", 0, 1, OUTSIDE, (x, n) -> x.ways(0, 0, 1, n));
        Edge.refused("ways(0, 1, 1, n)", 0, 1, OUTSIDE, (x, n) -> x.ways(0, 1, 1, n));
        Edge.refused("ways(0, 1, 7, n), no way", 0, 1, OUTSIDE, (x, n) -> x.ways(0, 1, 7, n));
        Edge.taken("ways(0, n, 1, 0)", 0, 9, (x, n) -> x.ways(0, n, 1, 0));
        Edge.taken("ways(0, 1, n, 1)", 0, 9, (x, n) -> x.ways(0, 1, n, 1));
    }

    private static void promise20FirstRefusal() {
        Edge.refused("ways(n, 10, 1, 0)", 0, 6, UNKNOWN, (x, n) -> x.ways(n, 10, 1, 0));
        Edge.refused("ways(n, 0, -1, 0)", 0, 6, UNKNOWN, (x, n) -> x.ways(n, 0, -1, 0));
        Edge.refused("ways(3, 0, 1, n)", 0, 1, UNKNOWN, (x, n) -> x.ways(3, 0, 1, n));
    }

    private static void promise21NoStairs() {
        PlumbCreeds x = Due.three();
        for (int place = 0; place < 10; place++) {
            Due.is("reach(0, " + place + ")", x.reach(0, place), 1 << place);
        }
    }

    private static void promise21AllPlaces() {
        PlumbCreeds x = row();
        for (int place = 0; place < 10; place++) {
            Due.is("reach(0, " + place + ")", x.reach(0, place), 1023);
        }
        x.bear(2);
        Due.is("reach(0, 4), BEAR 2", x.reach(0, 4), 16);
        Due.is("reach(1, 4), BEAR 2", x.reach(1, 4), 1023);
    }

    private static void promise21BearAtMost() {
        PlumbCreeds x = Due.three();
        x.stair(0, 0, 1, -6);
        x.stair(1, 0, 2, 0);
        x.stair(2, 0, 3, -7);
        x.stair(3, 0, 4, 1);
        x.stair(4, 2, 9, -3);
        x.stair(5, 3, 8, -3);
        Due.is("reach(0, 0)", x.reach(0, 0), 1 + 2 + 4 + 512);
        Due.is("reach(0, 9)", x.reach(0, 9), 1 + 2 + 4 + 512);
        Due.is("reach(0, 8)", x.reach(0, 8), 8 + 256);
        Due.is("reach(0, 4)", x.reach(0, 4), 16);
    }

    private static void promise21Refused() {
        Edge.refused("reach(n, 0)", 0, 6, UNKNOWN, (x, n) -> x.reach(n, 0));
        Edge.refusedAt("reach(n, 0), who is not there", 3, UNKNOWN, (x, n) -> x.reach(n, 0));
        Edge.refused("reach(0, n)", 0, 9, OUTSIDE, (x, n) -> x.reach(0, n));
    }

    private static void promise21FirstRefusal() {
        Edge.refused("reach(n, 10)", 0, 6, UNKNOWN, (x, n) -> x.reach(n, 10));
        Edge.refused("reach(3, n)", 0, 9, UNKNOWN, (x, n) -> x.reach(3, n));
    }

    private static void questionsDoNothing() {
        Edge.changesNothing("questions of leans, bridges, ways", x -> {
            for (int what = 0; what < 2; what++) {
                x.all(7, what);
                x.wedges(0, 2, what);
                x.meet(0, 1, 40, what);
                x.ways(1, 0, 2, what);
                x.reach(what, 0);
            }
        });
    }
}
