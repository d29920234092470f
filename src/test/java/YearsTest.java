/** Promises 11 to 16: YEARS judged, done, and what stands behind them. */
public final class YearsTest {
    public static void main(String[] args) {
        testPromise11Judge();
        testPromise11LeastReason();
        testPromise11LastYear();
        testPromise12Done();
        testPromise13Behind();
        testPromise14Wall();
        testPromise15Fell();
        testPromise16Bears();
        testQuakes();
        testFallen();
        Due.end("YearsTest");
    }

    private static void testPromise11Judge() {
        PlumbCreeds x = Due.three();
        Due.is("judge(0), empty", x.judge(0), PlumbCreeds.NONE);
        Due.is("judge(1), empty", x.judge(1), PlumbCreeds.NONE);
        Due.is("judge(-1)", x.judge(-1), PlumbCreeds.OUTSIDE);
        Due.is("judge(2)", x.judge(2), PlumbCreeds.OUTSIDE);
        judged(x, "A0*.D1", 3, 1);
        judged(x, "A0D^0", 1, 1);
        judged(x, "Gy", 0, 1);
        judged(x, "A^0", 0, 2);
        judged(x, "A0B^0C^1", 2, 2);
        judged(x, "Ax", 0, 3);
        judged(x, "AyAy", 1, 3);
        judged(x, "AyAx", PlumbCreeds.NONE, PlumbCreeds.NONE);
        x.one(1, 1, 9);
        judged(x, "*B7", 1, 4);
        judged(x, "BxB7", PlumbCreeds.NONE, PlumbCreeds.NONE);
        judged(x, "B7Ax", 0, 4);
        Due.write(x, "A");
        Due.is("judge(0) of a fault", x.judge(0), PlumbCreeds.NO);
        Due.is("judge(1) of a fault", x.judge(1), PlumbCreeds.NO);
        Due.is("judge(2) of a fault", x.judge(2), PlumbCreeds.OUTSIDE);
        Due.is("judging does nothing", x.told(2), 0);
    }

    private static void judged(PlumbCreeds x, String text, int act, int why) {
        Due.write(x, text);
        Due.is("judge(0) of " + text, x.judge(0), act);
        Due.is("judge(1) of " + text, x.judge(1), why);
    }

    private static void testPromise11LeastReason() {
        PlumbCreeds x = Due.three();
        x.leave(0);
        x.leave(2);
        judged(x, "A^3", 0, 1);
        judged(x, "Ax", 0, 1);
        x.one(2, 2, 9);
        x.leave(2);
        judged(x, "C0", 0, 1);
    }

    private static void testPromise11LastYear() {
        PlumbCreeds x = new PlumbCreeds();
        Due.carryOut(x, ".".repeat(60), 60);
        Due.carryOut(x, ".".repeat(39), 39);
        Due.is("told(4)", x.told(4), 99);
        judged(x, "*.", 1, 5);
        judged(x, ".", 0, 5);
        Due.is("done()", x.done(), PlumbCreeds.NO);
        Due.is("told(4) still", x.told(4), 99);
        judged(x, "*", PlumbCreeds.NONE, PlumbCreeds.NONE);
        PlumbCreeds y = new PlumbCreeds();
        Due.carryOut(y, ".".repeat(60), 60);
        judged(y, ".".repeat(40), 39, 5);
    }

    private static void testPromise12Done() {
        PlumbCreeds x = Due.three();
        Due.is("done(), empty", x.done(), 0);
        Due.carryOut(x, "A0B^0C^0.*", 5);
        Due.is("told(0)", x.told(0), 0);
        Due.is("told(2)", x.told(2), 1);
        Due.is("told(4)", x.told(4), 1);
        Due.is("told(60)", x.told(60), 0);
        Due.is("told(61)", x.told(61), 0);
        Due.write(x, "A1A");
        Due.is("done() of a fault", x.done(), PlumbCreeds.NO);
        Due.is("told(0) behind NO", x.told(0), 3);
        Due.write(x, "A1A^2");
        Due.is("done() of what can not be", x.done(), PlumbCreeds.NO);
        Due.is("told(0) behind NO", x.told(0), 5);
        Due.is("told(2) behind NO", x.told(2), 1);
    }

    private static void testPromise13Behind() {
        PlumbCreeds x = Due.three();
        Due.write(x, "Az");
        Due.is("behind(0, 0)", x.behind(0, 0), 2);
        Due.is("behind(0, 1)", x.behind(0, 1), 5);
        Due.is("behind(2, 1)", x.behind(2, 1), 8);
        Due.is("told(20) as it was", x.told(20), 0);
        Due.is("behind(3, 2)", x.behind(3, 2), PlumbCreeds.UNKNOWN);
        Due.is("behind(7, 0)", x.behind(7, 0), PlumbCreeds.UNKNOWN);
        Due.is("behind(-1, 0)", x.behind(-1, 0), PlumbCreeds.UNKNOWN);
        Due.is("behind(0, 2)", x.behind(0, 2), PlumbCreeds.OUTSIDE);
        Due.is("behind(0, -1)", x.behind(0, -1), PlumbCreeds.OUTSIDE);
        Due.write(x, "Ax");
        Due.is("behind(0, 0) of what can not be", x.behind(0, 0), PlumbCreeds.NO);
        Due.is("behind(0, 2) of what can not be", x.behind(0, 2), PlumbCreeds.OUTSIDE);
        Due.write(x, "A");
        Due.is("behind(0, 1) of a fault", x.behind(0, 1), PlumbCreeds.NO);
        Due.is("behind(3, 1) of a fault", x.behind(3, 1), PlumbCreeds.UNKNOWN);
        Due.write(x, "");
        Due.is("behind(2, 0) of nothing", x.behind(2, 0), 2);
    }

    private static void testPromise14Wall() {
        PlumbCreeds x = Due.three();
        Due.write(x, "A0C7C0");
        Due.is("wall(0, 0)", x.wall(0, 0), 13);
        Due.is("wall(0, 1)", x.wall(0, 1), 2);
        Due.is("wall(7, 0)", x.wall(7, 0), 13);
        Due.is("wall(1, 0)", x.wall(1, 0), PlumbCreeds.NONE);
        Due.is("wall(1, 1)", x.wall(1, 1), PlumbCreeds.NONE);
        Due.is("wall(8, 2)", x.wall(8, 2), PlumbCreeds.UNKNOWN);
        Due.is("wall(-1, 0)", x.wall(-1, 0), PlumbCreeds.UNKNOWN);
        Due.is("wall(1, 2)", x.wall(1, 2), PlumbCreeds.OUTSIDE);
        Due.is("wall(0, -1)", x.wall(0, -1), PlumbCreeds.OUTSIDE);
        Due.is("told(2) as it was", x.told(2), 0);
        Due.write(x, "A0A^1");
        Due.is("wall(0, 0) of what can not be", x.wall(0, 0), PlumbCreeds.NO);
        Due.is("wall(0, 2) of what can not be", x.wall(0, 2), PlumbCreeds.OUTSIDE);
        Due.write(x, "0");
        Due.is("wall(1, 0) of a fault", x.wall(1, 0), PlumbCreeds.NO);
        x.creed(0, -9);
        Due.write(x, "A0");
        Due.is("wall(0, 0), leaning -9", x.wall(0, 0), 1);
        Due.is("wall(0, 1)", x.wall(0, 1), 0);
    }

    private static void testPromise15Fell() {
        PlumbCreeds x = Due.three();
        fallen(x, "", PlumbCreeds.NONE, PlumbCreeds.NONE, 0, 0);
        fallen(x, "A0A^0B^0..", PlumbCreeds.NONE, PlumbCreeds.NONE, 0, 2);
        fallen(x, "*A0.C^0", 3, 2, 1, 1);
        fallen(x, "A0.C3A^3A^3C^0", 3, 0, 3, 1);
        fallen(x, "A0A^0*", PlumbCreeds.NONE, PlumbCreeds.NONE, 0, 0);
        Due.is("fell(-1)", x.fell(-1), PlumbCreeds.OUTSIDE);
        Due.is("fell(4)", x.fell(4), PlumbCreeds.OUTSIDE);
        Due.write(x, "*Ax");
        Due.is("fell(2) of what can not be", x.fell(2), PlumbCreeds.NO);
        Due.is("fell(4) of what can not be", x.fell(4), PlumbCreeds.OUTSIDE);
        Due.write(x, "*A");
        Due.is("fell(3) of a fault", x.fell(3), PlumbCreeds.NO);
    }

    private static void fallen(PlumbCreeds x, String text, int act, int who, int falls, int year) {
        Due.write(x, text);
        Due.is("fell(0) of " + text, x.fell(0), act);
        Due.is("fell(1) of " + text, x.fell(1), who);
        Due.is("fell(2) of " + text, x.fell(2), falls);
        Due.is("fell(3) of " + text, x.fell(3), year);
    }

    private static void testPromise16Bears() {
        PlumbCreeds x = Due.three();
        Due.carryOut(x, "A0B1C7", 3);
        Due.is("bears(0)", x.bears(0), 3);
        Due.is("bears(1)", x.bears(1), 131);
        Due.is("bears(2)", x.bears(2), 130);
        x.bear(2);
        Due.is("bears(1), BEAR 2", x.bears(1), 2);
        x.bear(6);
        Due.is("bears(0), BEAR 6", x.bears(0), 131);
        Due.is("bears(3)", x.bears(3), PlumbCreeds.UNKNOWN);
        Due.is("bears(-1)", x.bears(-1), PlumbCreeds.UNKNOWN);
        Due.is("bears(7)", x.bears(7), PlumbCreeds.UNKNOWN);
        Due.write(x, "A5");
        Due.is("bears(0) is of now", x.bears(0), 131);
    }

    private static void testQuakes() {
        PlumbCreeds x = Due.three();
        Due.carryOut(x, "A0B1C2*", 4);
        Due.is("BEAR 3: all stand", x.told(2), 7);
        x.bear(2);
        Due.carryOut(x, "*", 1);
        Due.is("BEAR 2: one stands", x.told(2), 2);
        x.bear(0);
        x.creed(1, -1);
        Due.carryOut(x, "*B3*", 3);
        Due.is("BEAR 0: what leans falls", x.told(2), 2);
    }

    private static void testFallen() {
        PlumbCreeds x = Due.three();
        Due.carryOut(x, "A0C^0", 2);
        Due.is("8 and 3 are above 9: creed", x.told(60), 0);
        Due.is("8 and 3 are above 9: doubt", x.told(61), 0);
        x.one(2, 2, 6);
        Due.carryOut(x, "C^0", 1);
        Due.is("6 and 3 are not above 9: creed", x.told(60), 2);
        Due.is("6 and 3 are not above 9: doubt", x.told(61), 9);
        x.creed(0, 9);
        x.one(0, 0, 7);
        Due.carryOut(x, "A^0", 1);
        Due.is("he falls from his own creed's wall: creed", x.told(20), 0);
        Due.is("he falls from his own creed's wall: doubt", x.told(21), 0);
        x.one(1, 1, 2);
        Due.carryOut(x, "B^0B^0B^0", 3);
        Due.is("doubt is 0 at least", x.told(41), 0);
    }
}
