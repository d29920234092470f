/** Promises 17 to 21: a lean for all, wedges, bridges, ways. */
public final class LeansTest {
    public static void main(String[] args) {
        testPromise17All();
        testPromise18Wedges();
        testPromise18LeastOfAsFew();
        testPromise19Meet();
        testPromise20Ways();
        testPromise20NextPlace();
        testPromise21Reach();
        Due.end("LeansTest");
    }

    private static void testPromise17All() {
        PlumbCreeds x = Due.three();
        asked(x, 0, 19, 1);
        asked(x, 1, 7, 4);
        asked(x, 6, 4, 10);
        asked(x, 7, 1, 10);
        x.bear(2);
        asked(x, 7, 0, PlumbCreeds.NONE);
        x.bear(18);
        asked(x, 7, 19, 1);
        x.creed(0, 9);
        x.bear(4);
        asked(x, 1, 5, 15);
        asked(x, 5, 3, 15);
        Due.is("all(7, 2)", x.all(7, 2), PlumbCreeds.OUTSIDE);
        Due.is("all(7, -1)", x.all(7, -1), PlumbCreeds.OUTSIDE);
        Due.is("all(8, 2)", x.all(8, 2), PlumbCreeds.UNKNOWN);
        Due.is("all(128, 0)", x.all(128, 0), PlumbCreeds.UNKNOWN);
        Due.is("all(129, 0)", x.all(129, 0), PlumbCreeds.UNKNOWN);
        Due.is("all(-1, 0)", x.all(-1, 0), PlumbCreeds.UNKNOWN);
        x.one(6, 1, 0);
        asked(x, 64, 9, 6);
    }

    private static void asked(PlumbCreeds x, int set, int many, int least) {
        Due.is("all(" + set + ", 0)", x.all(set, 0), many);
        Due.is("all(" + set + ", 1)", x.all(set, 1), least);
    }

    private static void testPromise18Wedges() {
        PlumbCreeds x = Due.three();
        Due.carryOut(x, "A0C1", 2);
        wedged(x, 0, 0, 0, 7);
        wedged(x, 0, 1, 0, 7);
        wedged(x, 0, 4, 3, 10);
        wedged(x, 1, 1, 3, 10);
        wedged(x, 1, 7, 3, 10);
        x.bear(1);
        wedged(x, 0, 3, PlumbCreeds.NONE, PlumbCreeds.NONE);
        wedged(x, 0, 2, 2, 9);
        wedged(x, 1, 2, 2, 11);
        Due.is("wedges(2, 1, 2)", x.wedges(2, 1, 2), PlumbCreeds.UNKNOWN);
        Due.is("wedges(8, 1, 0)", x.wedges(8, 1, 0), PlumbCreeds.UNKNOWN);
        Due.is("wedges(-1, 1, 0)", x.wedges(-1, 1, 0), PlumbCreeds.UNKNOWN);
        Due.is("wedges(0, 8, 2)", x.wedges(0, 8, 2), PlumbCreeds.UNKNOWN);
        Due.is("wedges(0, 128, 0)", x.wedges(0, 128, 0), PlumbCreeds.UNKNOWN);
        Due.is("wedges(0, -1, 0)", x.wedges(0, -1, 0), PlumbCreeds.UNKNOWN);
        Due.is("wedges(0, 1, 2)", x.wedges(0, 1, 2), PlumbCreeds.OUTSIDE);
        Due.is("wedges(0, 3, -1)", x.wedges(0, 3, -1), PlumbCreeds.OUTSIDE);
        Due.is("told(200) as it was", x.told(200), 7);
    }

    private static void wedged(PlumbCreeds x, int wall, int set, int many, int lean) {
        Due.is("wedges(" + wall + ", " + set + ", 0)", x.wedges(wall, set, 0), many);
        Due.is("wedges(" + wall + ", " + set + ", 1)", x.wedges(wall, set, 1), lean);
    }

    /** The LEANS that bear somebody lie side by side, so two are never as near: the ends are what can go wrong. */
    private static void testPromise18LeastOfAsFew() {
        PlumbCreeds x = Due.three();
        x.creed(0, 9);
        Due.carryOut(x, "A0", 1);
        x.creed(0, -9);
        wedged(x, 0, 1, 15, 4);
        x.bear(0);
        wedged(x, 0, 1, 18, 1);
        x.creed(2, 9);
        wedged(x, 0, 4, 0, 19);
        x.creed(0, -4);
        x.bear(1);
        wedged(x, 0, 1, 12, 7);
        Due.carryOut(x, "A0A1", 2);
        wedged(x, 0, 1, 0, 6);
        x.creed(0, -3);
        wedged(x, 0, 1, 0, 6);
        x.creed(0, -2);
        wedged(x, 0, 1, 1, 7);
    }

    private static void testPromise19Meet() {
        PlumbCreeds x = Due.three();
        met(x, 0, 2, 0, 0, 0);
        met(x, 0, 0, 5, 3, 2);
        met(x, 0, 0, 4, 0, 2);
        met(x, 1, 0, 4, 0, 4);
        met(x, 1, 1, 40, 0, 0);
        met(x, 0, 2, 4, 12, 0);
        x.creed(0, 7);
        x.creed(1, 4);
        met(x, 0, 1, 11, 0, 4);
        met(x, 0, 1, 40, 5, 15);
        x.creed(1, 1);
        met(x, 0, 1, 8, 0, 1);
        met(x, 0, 1, 3, 3, 0);
        x.creed(1, 0);
        met(x, 0, 1, 40, 0, 0);
        met(x, 1, 0, 40, 0, 40);
        Due.is("meet(0, 3, 41, 0)", x.meet(0, 3, 41, 0), PlumbCreeds.UNKNOWN);
        Due.is("meet(3, 0, 4, 0)", x.meet(3, 0, 4, 0), PlumbCreeds.UNKNOWN);
        Due.is("meet(-1, 0, 4, 0)", x.meet(-1, 0, 4, 0), PlumbCreeds.UNKNOWN);
        Due.is("meet(0, 7, 4, 0)", x.meet(0, 7, 4, 0), PlumbCreeds.UNKNOWN);
        Due.is("meet(0, 1, 41, 0)", x.meet(0, 1, 41, 0), PlumbCreeds.OUTSIDE);
        Due.is("meet(0, 1, -1, 0)", x.meet(0, 1, -1, 0), PlumbCreeds.OUTSIDE);
        Due.is("meet(0, 1, 4, 2)", x.meet(0, 1, 4, 2), PlumbCreeds.OUTSIDE);
        Due.is("meet(0, 1, 4, -1)", x.meet(0, 1, 4, -1), PlumbCreeds.OUTSIDE);
    }

    private static void met(PlumbCreeds x, int one, int other, int n, int step, int k) {
        String call = "meet(" + one + ", " + other + ", " + n + ", ";
        Due.is(call + "0)", x.meet(one, other, n, 0), step);
        Due.is(call + "1)", x.meet(one, other, n, 1), k);
    }

    private static void testPromise20Ways() {
        PlumbCreeds x = Due.three();
        for (int stair = 0; stair < 9; stair++) {
            x.stair(stair, stair + 1, stair, stair == 4 ? 3 : 0);
        }
        walked(x, 1, 0, 9, 9, 1);
        walked(x, 1, 9, 0, 9, 8);
        walked(x, 0, 0, 4, 4, 1);
        walked(x, 0, 0, 5, PlumbCreeds.NONE, PlumbCreeds.NONE);
        walked(x, 0, 9, 9, 0, PlumbCreeds.NONE);
        Due.is("ways(3, 10, 0, 0)", x.ways(3, 10, 0, 0), PlumbCreeds.UNKNOWN);
        Due.is("ways(-1, 0, 0, 0)", x.ways(-1, 0, 0, 0), PlumbCreeds.UNKNOWN);
        Due.is("ways(0, 10, 0, 0)", x.ways(0, 10, 0, 0), PlumbCreeds.OUTSIDE);
        Due.is("ways(0, -1, 0, 0)", x.ways(0, -1, 0, 0), PlumbCreeds.OUTSIDE);
        Due.is("ways(0, 0, 10, 0)", x.ways(0, 0, 10, 0), PlumbCreeds.OUTSIDE);
        Due.is("ways(0, 0, -1, 0)", x.ways(0, 0, -1, 0), PlumbCreeds.OUTSIDE);
        Due.is("ways(0, 0, 0, 2)", x.ways(0, 0, 0, 2), PlumbCreeds.OUTSIDE);
        Due.is("ways(0, 0, 5, -1)", x.ways(0, 0, 5, -1), PlumbCreeds.OUTSIDE);
    }

    private static void walked(PlumbCreeds x, int one, int from, int to, int stairs, int place) {
        String call = "ways(" + one + ", " + from + ", " + to + ", ";
        Due.is(call + "0)", x.ways(one, from, to, 0), stairs);
        Due.is(call + "1)", x.ways(one, from, to, 1), place);
    }

    private static void testPromise20NextPlace() {
        PlumbCreeds x = Due.three();
        x.stair(0, 5, 8, 0);
        x.stair(1, 5, 3, 0);
        x.stair(2, 8, 7, 0);
        x.stair(3, 7, 3, 0);
        x.stair(4, 5, 0, 0);
        x.stair(5, 1, 5, 3);
        x.stair(6, 1, 7, 0);
        walked(x, 1, 5, 7, 2, 1);
        walked(x, 0, 5, 7, 2, 3);
        walked(x, 0, 7, 5, 2, 3);
        walked(x, 0, 0, 7, 3, 5);
        x.stair(7, 7, 5, 1);
        walked(x, 1, 5, 7, 1, 7);
        walked(x, 0, 5, 7, 2, 3);
    }

    private static void testPromise21Reach() {
        PlumbCreeds x = Due.three();
        Due.is("reach(0, 4), no stairs", x.reach(0, 4), 16);
        for (int stair = 0; stair < 9; stair++) {
            x.stair(stair, stair, stair + 1, stair == 6 ? -3 : 0);
        }
        Due.is("reach(0, 0)", x.reach(0, 0), 1023);
        Due.is("reach(0, 9)", x.reach(0, 9), 1023);
        Due.is("reach(2, 0)", x.reach(2, 0), 127);
        Due.is("reach(2, 8)", x.reach(2, 8), 896);
        Due.is("reach(3, 10)", x.reach(3, 10), PlumbCreeds.UNKNOWN);
        Due.is("reach(-1, 0)", x.reach(-1, 0), PlumbCreeds.UNKNOWN);
        Due.is("reach(0, 10)", x.reach(0, 10), PlumbCreeds.OUTSIDE);
        Due.is("reach(0, -1)", x.reach(0, -1), PlumbCreeds.OUTSIDE);
    }
}
