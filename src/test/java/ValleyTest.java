/** Promises 1 to 10: a new object, creeds, ones, kin, stairs, signs, the FAULT. */
public final class ValleyTest {
    public static void main(String[] args) {
        testPromise1New();
        testPromise2Creed();
        testPromise3Bear();
        testPromise4One();
        testPromise5Leave();
        testPromise6Kin();
        testPromise7Stair();
        testPromise8Say();
        testPromise9Wipe();
        testPromise10Fault();
        Due.end("ValleyTest");
    }

    private static void testPromise1New() {
        PlumbCreeds x = new PlumbCreeds();
        for (int what = 0; what <= 6; what++) {
            Due.is("new: told(" + what + ")", x.told(what), what == 3 ? 3 : 0);
        }
        Due.is("new: told(10)", x.told(10), 7);
        Due.is("new: told(11)", x.told(11), 10);
        Due.is("new: told(12)", x.told(12), 13);
        Due.is("new: downs(-1)", x.downs(-1), 19);
        Due.is("new: fault()", x.fault(), PlumbCreeds.NONE);
        Due.is("new: kin(0, 1, false)", x.kin(0, 1, false), 0);
        Due.is("new: restore(1)", x.restore(1), PlumbCreeds.STATE);
        x.one(0, 0, 0);
        Due.is("two objects share nothing", new PlumbCreeds().told(1), 0);
    }

    private static void testPromise2Creed() {
        PlumbCreeds x = Due.three();
        Due.carryOut(x, "A0", 1);
        Due.is("creed(0, 9)", x.creed(0, 9), 7);
        Due.is("creed(0, -9)", x.creed(0, -9), 19);
        Due.is("creed(0, 1)", x.creed(0, 1), 1);
        Due.is("creed(2, 3)", x.creed(2, 3), 13);
        Due.is("told(10)", x.told(10), 11);
        Due.is("told(11)", x.told(11), 10);
        Due.is("the wall keeps its lean", x.told(200), 7);
        Due.is("creed(-1, 0)", x.creed(-1, 0), PlumbCreeds.UNKNOWN);
        Due.is("creed(3, 10)", x.creed(3, 10), PlumbCreeds.UNKNOWN);
        Due.is("creed(1, 10)", x.creed(1, 10), PlumbCreeds.OUTSIDE);
        Due.is("creed(1, -10)", x.creed(1, -10), PlumbCreeds.OUTSIDE);
        Due.is("told(11) behind refusals", x.told(11), 10);
    }

    private static void testPromise3Bear() {
        PlumbCreeds x = new PlumbCreeds();
        Due.is("bear(18)", x.bear(18), 3);
        Due.is("bear(0)", x.bear(0), 18);
        Due.is("bear(-1)", x.bear(-1), PlumbCreeds.OUTSIDE);
        Due.is("bear(19)", x.bear(19), PlumbCreeds.OUTSIDE);
        Due.is("told(3)", x.told(3), 0);
    }

    private static void testPromise4One() {
        PlumbCreeds x = new PlumbCreeds();
        Due.is("one(6, 2, 9)", x.one(6, 2, 9), 1);
        Due.is("one(0, 0, 0)", x.one(0, 0, 0), 2);
        Due.is("kin(0, 6, true)", x.kin(0, 6, true), 1);
        Due.is("one(6, 1, 4) anew", x.one(6, 1, 4), 2);
        Due.is("told(140)", x.told(140), 1);
        Due.is("told(141)", x.told(141), 4);
        Due.is("kin stay", x.kin(1, 2, true), 2);
        Due.is("one(-1, 0, 0)", x.one(-1, 0, 0), PlumbCreeds.UNKNOWN);
        Due.is("one(7, 3, 10)", x.one(7, 3, 10), PlumbCreeds.UNKNOWN);
        Due.is("one(0, 3, 0)", x.one(0, 3, 0), PlumbCreeds.OUTSIDE);
        Due.is("one(0, -1, 0)", x.one(0, -1, 0), PlumbCreeds.OUTSIDE);
        Due.is("one(1, 0, 10)", x.one(1, 0, 10), PlumbCreeds.OUTSIDE);
        Due.is("one(1, 0, -1)", x.one(1, 0, -1), PlumbCreeds.OUTSIDE);
        Due.is("told(1)", x.told(1), 65);
        Due.is("told(20)", x.told(20), 0);
    }

    private static void testPromise5Leave() {
        PlumbCreeds x = Due.three();
        Due.carryOut(x, "A0", 1);
        x.kin(0, 1, true);
        Due.is("leave(0)", x.leave(0), 2);
        Due.is("leave(0) again", x.leave(0), PlumbCreeds.UNKNOWN);
        Due.is("leave(-1)", x.leave(-1), PlumbCreeds.UNKNOWN);
        Due.is("leave(7)", x.leave(7), PlumbCreeds.UNKNOWN);
        Due.is("told(1)", x.told(1), 6);
        Due.is("walls stay", x.told(2), 1);
        Due.is("kin stay", x.kin(1, 2, true), 2);
    }

    private static void testPromise6Kin() {
        PlumbCreeds x = new PlumbCreeds();
        Due.is("kin(0, 6, true)", x.kin(0, 6, true), 1);
        Due.is("kin(6, 0, true)", x.kin(6, 0, true), 1);
        Due.is("kin(1, 6, true)", x.kin(1, 6, true), 2);
        Due.is("kin(6, 0, false)", x.kin(6, 0, false), 1);
        Due.is("kin(6, 0, false) again", x.kin(6, 0, false), 1);
        Due.is("kin(3, 3, true)", x.kin(3, 3, true), PlumbCreeds.UNKNOWN);
        Due.is("kin(3, 3, false)", x.kin(3, 3, false), PlumbCreeds.UNKNOWN);
        Due.is("kin(7, 0, true)", x.kin(7, 0, true), PlumbCreeds.UNKNOWN);
        Due.is("kin(0, 7, true)", x.kin(0, 7, true), PlumbCreeds.UNKNOWN);
        Due.is("kin(-1, 0, true)", x.kin(-1, 0, true), PlumbCreeds.UNKNOWN);
        Due.is("kin(0, -1, true)", x.kin(0, -1, true), PlumbCreeds.UNKNOWN);
        int twos = 1;
        for (int one = 0; one < 7; one++) {
            for (int other = one + 1; other < 7; other++) {
                twos += one == 1 && other == 6 ? 0 : 1;
                Due.is("kin(" + one + ", " + other + ", true)", x.kin(one, other, true), twos);
            }
        }
        Due.is("all twos", twos, 21);
    }

    private static void testPromise7Stair() {
        PlumbCreeds x = new PlumbCreeds();
        Due.is("stair(11, 9, 0, -9)", x.stair(11, 9, 0, -9), 1);
        Due.is("stair(0, 0, 9, 9)", x.stair(0, 0, 9, 9), 2);
        Due.is("told(311)", x.told(311), 9001);
        Due.is("told(300)", x.told(300), 919);
        Due.is("stair(11, 3, 4, 0) anew", x.stair(11, 3, 4, 0), 2);
        Due.is("told(311) anew", x.told(311), 3410);
        Due.is("stair(12, 3, 3, 10)", x.stair(12, 3, 3, 10), PlumbCreeds.UNKNOWN);
        Due.is("stair(-1, 0, 1, 0)", x.stair(-1, 0, 1, 0), PlumbCreeds.UNKNOWN);
        Due.is("stair(1, -1, 1, 0)", x.stair(1, -1, 1, 0), PlumbCreeds.OUTSIDE);
        Due.is("stair(1, 10, 1, 0)", x.stair(1, 10, 1, 0), PlumbCreeds.OUTSIDE);
        Due.is("stair(1, 1, -1, 0)", x.stair(1, 1, -1, 0), PlumbCreeds.OUTSIDE);
        Due.is("stair(1, 1, 10, 0)", x.stair(1, 1, 10, 0), PlumbCreeds.OUTSIDE);
        Due.is("stair(1, 2, 2, 0)", x.stair(1, 2, 2, 0), PlumbCreeds.OUTSIDE);
        Due.is("stair(1, 1, 2, 10)", x.stair(1, 1, 2, 10), PlumbCreeds.OUTSIDE);
        Due.is("stair(1, 1, 2, -10)", x.stair(1, 1, 2, -10), PlumbCreeds.OUTSIDE);
        Due.is("told(6)", x.told(6), 2049);
    }

    private static void testPromise8Say() {
        PlumbCreeds x = new PlumbCreeds();
        Due.is("say(32)", x.say(32), PlumbCreeds.OUTSIDE);
        Due.is("say(127)", x.say(127), PlumbCreeds.OUTSIDE);
        Due.is("say(33)", x.say(33), 1);
        Due.is("say(126)", x.say(126), 2);
        for (int count = 3; count <= 60; count++) {
            Due.is("say('.')", x.say('.'), count);
        }
        Due.is("say on a full pad", x.say('.'), PlumbCreeds.FULL);
        Due.is("say(32) on a full pad", x.say(32), PlumbCreeds.OUTSIDE);
        Due.is("told(0)", x.told(0), 60);
    }

    private static void testPromise9Wipe() {
        PlumbCreeds x = new PlumbCreeds();
        Due.is("wipe() of nothing", x.wipe(), 0);
        Due.write(x, "A0*");
        Due.is("wipe()", x.wipe(), 3);
        Due.is("told(0)", x.told(0), 0);
        Due.is("say('B')", x.say('B'), 1);
        Due.is("fault() of B alone", x.fault(), 1);
    }

    private static void testPromise10Fault() {
        PlumbCreeds x = new PlumbCreeds();
        String[] texts = {"", "*.G7", "G^7A^0", "AxByGz", "A", "A^", "*A", "H", "A8", "A^8", "Aw", "A{", "0", "^", "x",
            "A/", "A^/", "A*", "A.", "AA", "A^A", "A^x", "A^^", "*@", "A0B", "A0x", "..H..", "a", "!"};
        int[] faults = {-6, -6, -6, -6, 1, 2, 2, 0, 1, 2, 1, 1, 0, 0, 0,
            1, 2, 1, 1, 1, 2, 2, 2, 1, 3, 2, 2, 0, 0};
        for (int i = 0; i < texts.length; i++) {
            Due.write(x, texts[i]);
            Due.is("fault() of " + texts[i], x.fault(), faults[i]);
        }
        Due.write(x, "A^0".repeat(20));
        Due.is("fault() of a full pad", x.fault(), PlumbCreeds.NONE);
        Due.write(x, "A^0".repeat(19) + "A0A");
        Due.is("fault() of a full pad that lacks a sign", x.fault(), 60);
    }
}
