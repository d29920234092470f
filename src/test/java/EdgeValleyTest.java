/** The boundary cases of the Terms and of promises 1 to 10, a test each. */
public final class EdgeValleyTest {
    private static final int NONE = PlumbCreeds.NONE, UNKNOWN = PlumbCreeds.UNKNOWN, OUTSIDE = PlumbCreeds.OUTSIDE;
    private static final int STATE = PlumbCreeds.STATE, FULL = PlumbCreeds.FULL;

    public static void main(String[] args) {
        promise1NobodyIsThere();
        promise1NothingStands();
        promise1NoStairs();
        promise1WhatIsAtFirst();
        promise2LeastAndGreatest();
        promise2Refused();
        promise2FirstRefusal();
        promise2WallsKeepTheirLean();
        promise3LeastAndGreatest();
        promise3Refused();
        promise4LeastAndGreatest();
        promise4AllSeven();
        promise4Anew();
        promise4Refused();
        promise4FirstRefusal();
        promise5LastOneLeaves();
        promise5Refused();
        promise5KinAndWallsStay();
        promise6LeastAndGreatest();
        promise6AllTwos();
        promise6BeTheyThereOrNot();
        promise6Refused();
        promise7LeastAndGreatest();
        promise7AllTwelve();
        promise7Anew();
        promise7Refused();
        promise7FirstRefusal();
        promise8LeastAndGreatest();
        promise8Refused();
        promise8FullPad();
        promise8FirstRefusal();
        promise9EmptyPad();
        promise9FullPad();
        promise10EmptyPad();
        promise10EachSignAlone();
        promise10EachSignBehindAOne();
        promise10EachSignBehindAClimb();
        promise10FullPad();
        promise10FirstFault();
        Due.end("EdgeValleyTest");
    }

    private static void promise1NobodyIsThere() {
        PlumbCreeds x = new PlumbCreeds();
        Due.is("new: told(1)", x.told(1), 0);
        for (int one = 0; one < 7; one++) {
            Due.is("new: told of creed " + one, x.told(20 * (1 + one)), OUTSIDE);
            Due.is("new: told of doubt " + one, x.told(20 * (1 + one) + 1), OUTSIDE);
            Due.is("new: leave " + one, x.leave(one), UNKNOWN);
            Due.is("new: behind " + one, x.behind(one, 0), UNKNOWN);
            Due.is("new: bears " + one, x.bears(one), UNKNOWN);
            Due.is("new: meet " + one, x.meet(one, one, 0, 0), UNKNOWN);
            Due.is("new: ways " + one, x.ways(one, 0, 0, 0), UNKNOWN);
            Due.is("new: reach " + one, x.reach(one, 0), UNKNOWN);
            Due.is("new: settle " + one, x.settle(one, 0), UNKNOWN);
            Due.is("new: all " + one, x.all(1 << one, 0), UNKNOWN);
            Due.is("new: wedges " + one, x.wedges(0, 1 << one, 0), UNKNOWN);
        }
        Due.is("new: nobody needs no lean of all", x.all(0, 0), 19);
    }

    private static void promise1NothingStands() {
        PlumbCreeds x = new PlumbCreeds();
        Due.is("new: told(2)", x.told(2), 0);
        for (int wall = 0; wall < 8; wall++) {
            Due.is("new: told of lean " + wall, x.told(200 + 10 * wall), OUTSIDE);
            Due.is("new: told of creed " + wall, x.told(201 + 10 * wall), OUTSIDE);
            Due.is("new: wall's lean " + wall, x.wall(wall, 0), NONE);
            Due.is("new: wall's creed " + wall, x.wall(wall, 1), NONE);
            Due.is("new: wedges " + wall, x.wedges(wall, 0, 0), UNKNOWN);
        }
    }

    private static void promise1NoStairs() {
        PlumbCreeds x = new PlumbCreeds();
        Due.is("new: told(6)", x.told(6), 0);
        for (int stair = 0; stair < 12; stair++) {
            Due.is("new: told of stair " + stair, x.told(300 + stair), OUTSIDE);
        }
    }

    private static void promise1WhatIsAtFirst() {
        PlumbCreeds x = new PlumbCreeds();
        Due.is("new: no signs", x.told(0), 0);
        Due.is("new: BEAR", x.told(3), 3);
        Due.is("new: year", x.told(4), 0);
        Due.is("new: no SIGHTS", x.told(5), 0);
        Due.is("new: DOWN of x", x.told(10), 7);
        Due.is("new: DOWN of y", x.told(11), 10);
        Due.is("new: DOWN of z", x.told(12), 13);
        Due.is("new: DOWNS", x.downs(-1), 19);
        Due.is("new: no fault", x.fault(), NONE);
        Due.is("new: no act", x.done(), 0);
        Due.is("new: the year behind nothing", x.fell(3), 0);
        Due.is("new: image 0 was not kept", x.restore(0), STATE);
        Due.is("new: image 1 was not kept", x.restore(1), STATE);
        Due.is("new: no kin", x.kin(0, 6, false), 0);
        Due.is("new: all is as it was at once", x.again(0), 1);
        Due.is("new: a book without anybody", x.book(0, 99, 0) + x.book(0, 99, 1) + x.book(0, 99, 2), 0);
    }

    private static void promise2LeastAndGreatest() {
        PlumbCreeds x = new PlumbCreeds();
        Due.is("creed(0, -9)", x.creed(0, -9), 7);
        Due.is("creed(0, 9)", x.creed(0, 9), 1);
        Due.is("creed(0, 0)", x.creed(0, 0), 19);
        Due.is("creed(2, 9)", x.creed(2, 9), 13);
        Due.is("creed(2, -9)", x.creed(2, -9), 19);
        Due.is("creed(2, -9) again", x.creed(2, -9), 1);
        Due.is("told(10)", x.told(10), 10);
        Due.is("told(11) as it was", x.told(11), 10);
        Due.is("told(12)", x.told(12), 1);
        Edge.taken("creed(n, 0)", 0, 2, (y, n) -> y.creed(n, 0));
        Edge.taken("creed(1, n)", -9, 9, (y, n) -> y.creed(1, n));
    }

    private static void promise2Refused() {
        Edge.refused("creed(n, 0)", 0, 2, UNKNOWN, (x, n) -> x.creed(n, 0));
        Edge.refused("creed(1, n)", -9, 9, OUTSIDE, (x, n) -> x.creed(1, n));
    }

    private static void promise2FirstRefusal() {
        Edge.refused("creed(n, 10)", 0, 2, UNKNOWN, (x, n) -> x.creed(n, 10));
        Edge.refused("creed(3, n)", -9, 9, UNKNOWN, (x, n) -> x.creed(3, n));
    }

    private static void promise2WallsKeepTheirLean() {
        PlumbCreeds x = Due.three();
        Due.carryOut(x, "A0", 1);
        Due.is("the wall bears A", x.bears(0), 1);
        x.creed(0, 9);
        Due.is("its lean is what it was", x.told(200), 7);
        Due.is("its creed is what it was", x.told(201), 0);
        Due.is("it does not bear him who built it", x.bears(0), 0);
        Due.is("behind nothing it leans so too", x.wall(0, 0), 7);
        Due.carryOut(x, "A0", 1);
        Due.is("built anew it leans as down is now", x.told(200), 19);
    }

    private static void promise3LeastAndGreatest() {
        PlumbCreeds x = new PlumbCreeds();
        Due.is("bear(0)", x.bear(0), 3);
        Due.is("told(3) of the least", x.told(3), 0);
        Due.is("bear(18)", x.bear(18), 0);
        Due.is("told(3) of the greatest", x.told(3), 18);
        Due.is("bear(18) again", x.bear(18), 18);
        Edge.taken("bear(n)", 0, 18, (y, n) -> y.bear(n));
    }

    private static void promise3Refused() {
        Edge.refused("bear(n)", 0, 18, OUTSIDE, (x, n) -> x.bear(n));
    }

    private static void promise4LeastAndGreatest() {
        PlumbCreeds x = new PlumbCreeds();
        Due.is("one(0, 0, 0)", x.one(0, 0, 0), 1);
        Due.is("told(20)", x.told(20), 0);
        Due.is("told(21)", x.told(21), 0);
        Due.is("one(6, 2, 9)", x.one(6, 2, 9), 2);
        Due.is("told(140)", x.told(140), 2);
        Due.is("told(141)", x.told(141), 9);
        Due.is("told(1)", x.told(1), 65);
        Edge.taken("one(n, 0, 0)", 0, 6, (y, n) -> y.one(n, 0, 0));
        Edge.taken("one(3, n, 0)", 0, 2, (y, n) -> y.one(3, n, 0));
        Edge.taken("one(3, 0, n)", 0, 9, (y, n) -> y.one(3, 0, n));
    }

    private static void promise4AllSeven() {
        PlumbCreeds x = new PlumbCreeds();
        for (int one = 6; one >= 0; one--) {
            Due.is("one " + one, x.one(one, one % 3, 9 - one), 7 - one);
        }
        Due.is("told(1)", x.told(1), 127);
        for (int one = 0; one < 7; one++) {
            Due.is("creed of " + one, x.told(20 * (1 + one)), one % 3);
            Due.is("doubt of " + one, x.told(20 * (1 + one) + 1), 9 - one);
        }
    }

    private static void promise4Anew() {
        PlumbCreeds x = new PlumbCreeds();
        x.one(3, 0, 9);
        x.one(4, 2, 0);
        x.kin(3, 4, true);
        Due.is("anew: as many are there", x.one(3, 1, 2), 2);
        Due.is("anew: creed", x.told(80), 1);
        Due.is("anew: doubt", x.told(81), 2);
        Due.is("anew: kin stay, for the year", x.settle(3, 1), 2);
        Due.is("anew: kin stay, in number", x.kin(3, 4, true), 1);
        x.leave(3);
        Due.is("there again", x.one(3, 0, 0), 2);
        Due.is("there again: kin stay", x.settle(3, 1), 2);
    }

    private static void promise4Refused() {
        Edge.refused("one(n, 0, 0)", 0, 6, UNKNOWN, (x, n) -> x.one(n, 0, 0));
        Edge.refused("one(0, n, 1)", 0, 2, OUTSIDE, (x, n) -> x.one(0, n, 1));
        Edge.refused("one(0, 1, n)", 0, 9, OUTSIDE, (x, n) -> x.one(0, 1, n));
        Edge.refused("one(3, n, 1), who is not there", 0, 2, OUTSIDE, (x, n) -> x.one(3, n, 1));
        Edge.refused("one(3, 1, n), who is not there", 0, 9, OUTSIDE, (x, n) -> x.one(3, 1, n));
    }

    private static void promise4FirstRefusal() {
        Edge.refused("one(n, 3, 0)", 0, 6, UNKNOWN, (x, n) -> x.one(n, 3, 0));
        Edge.refused("one(n, 0, 10)", 0, 6, UNKNOWN, (x, n) -> x.one(n, 0, 10));
        Edge.refused("one(7, n, -1)", 0, 2, UNKNOWN, (x, n) -> x.one(7, n, -1));
        Edge.refused("one(0, n, n)", 0, 9, OUTSIDE, (x, n) -> x.one(0, n, n));
    }

    private static void promise5LastOneLeaves() {
        PlumbCreeds x = new PlumbCreeds();
        for (int one = 0; one < 7; one++) {
            x.one(one, 0, 0);
        }
        for (int one = 0; one < 7; one++) {
            Due.is("leave " + one, x.leave(one), 6 - one);
            Due.is("told(1) behind leave " + one, x.told(1), 127 - (2 << one) + 1);
        }
        Due.is("leave of nobody", x.leave(6), UNKNOWN);
    }

    private static void promise5Refused() {
        Edge.refused("leave(n)", 0, 6, UNKNOWN, (x, n) -> x.leave(n));
        Edge.refusedAt("leave(n), who is not there", 3, UNKNOWN, (x, n) -> x.leave(n));
        Edge.refusedAt("leave(n), who has kin and is not there", 5, UNKNOWN, (x, n) -> x.leave(n));
        PlumbCreeds x = Due.three();
        Due.is("leave(1)", x.leave(1), 2);
        Due.is("leave(1), who was", x.leave(1), UNKNOWN);
    }

    private static void promise5KinAndWallsStay() {
        PlumbCreeds x = Due.three();
        x.kin(0, 2, true);
        Due.carryOut(x, "A7", 1);
        x.leave(0);
        Due.is("kin stay", x.kin(0, 2, true), 1);
        Due.is("the wall stays", x.told(2), 128);
        Due.is("its lean", x.told(270), 7);
        Due.is("its creed", x.told(271), 0);
        Due.is("he is told of no more", x.told(20), OUTSIDE);
        Due.is("his doubt neither", x.told(21), OUTSIDE);
        Due.is("who is no more does not count for kin", x.settle(2, 1), 2);
    }

    private static void promise6LeastAndGreatest() {
        PlumbCreeds x = new PlumbCreeds();
        Due.is("kin(0, 1, true)", x.kin(0, 1, true), 1);
        Due.is("kin(6, 5, true)", x.kin(6, 5, true), 2);
        Due.is("kin(6, 0, true)", x.kin(6, 0, true), 3);
        Due.is("kin(0, 6, true), who are", x.kin(0, 6, true), 3);
        Due.is("kin(0, 6, false)", x.kin(0, 6, false), 2);
        Due.is("kin(6, 0, false), who are not", x.kin(6, 0, false), 2);
        Due.is("kin(5, 6, false)", x.kin(5, 6, false), 1);
        Due.is("kin(1, 0, false)", x.kin(1, 0, false), 0);
    }

    private static void promise6AllTwos() {
        PlumbCreeds x = new PlumbCreeds();
        int twos = 0;
        for (int one = 6; one >= 0; one--) {
            for (int other = 0; other < one; other++) {
                twos++;
                Due.is("kin(" + one + ", " + other + ", true)", x.kin(one, other, true), twos);
            }
        }
        Due.is("all twos", twos, 21);
        for (int one = 0; one < 7; one++) {
            for (int other = one + 1; other < 7; other++) {
                twos--;
                Due.is("kin(" + one + ", " + other + ", false)", x.kin(one, other, false), twos);
            }
        }
    }

    private static void promise6BeTheyThereOrNot() {
        PlumbCreeds x = new PlumbCreeds();
        Due.is("of nobody", x.kin(2, 3, true), 1);
        x.one(2, 0, 0);
        Due.is("of one who is there", x.kin(2, 4, true), 2);
        x.one(3, 1, 0);
        Due.is("who comes has his kin", x.settle(3, 1), 0);
        Due.is("and they have him", x.settle(2, 1), 1);
    }

    private static void promise6Refused() {
        Edge.refused("kin(n, 0, true)", 0, 6, UNKNOWN, (x, n) -> x.kin(n, 0, true));
        Edge.refused("kin(0, n, true)", 0, 6, UNKNOWN, (x, n) -> x.kin(0, n, true));
        Edge.refused("kin(n, 1, false)", 0, 6, UNKNOWN, (x, n) -> x.kin(n, 1, false));
        Edge.refused("kin(1, n, false)", 0, 6, UNKNOWN, (x, n) -> x.kin(1, n, false));
        Edge.refused("kin(n, n, true)", 0, 6, UNKNOWN, (x, n) -> x.kin(n, n, true));
        for (int one = 0; one < 7; one++) {
            Edge.refusedAt("kin(n, n, true)", one, UNKNOWN, (x, n) -> x.kin(n, n, true));
            Edge.refusedAt("kin(n, n, false)", one, UNKNOWN, (x, n) -> x.kin(n, n, false));
        }
    }

    private static void promise7LeastAndGreatest() {
        PlumbCreeds x = new PlumbCreeds();
        Due.is("stair(0, 0, 1, -9)", x.stair(0, 0, 1, -9), 1);
        Due.is("told(300)", x.told(300), 101);
        Due.is("stair(11, 9, 8, 9)", x.stair(11, 9, 8, 9), 2);
        Due.is("told(311)", x.told(311), 9819);
        Due.is("stair(1, 9, 0, -9)", x.stair(1, 9, 0, -9), 3);
        Due.is("told(301)", x.told(301), 9001);
        Due.is("stair(2, 0, 9, 0)", x.stair(2, 0, 9, 0), 4);
        Due.is("told(302)", x.told(302), 910);
        Edge.taken("stair(n, 3, 4, 0)", 0, 11, (y, n) -> y.stair(n, 3, 4, 0));
        Edge.taken("stair(5, n, 0, 0)", 1, 9, (y, n) -> y.stair(5, n, 0, 0));
        Edge.taken("stair(5, 9, n, 0)", 0, 8, (y, n) -> y.stair(5, 9, n, 0));
        Edge.taken("stair(5, 3, 4, n)", -9, 9, (y, n) -> y.stair(5, 3, 4, n));
    }

    private static void promise7AllTwelve() {
        PlumbCreeds x = new PlumbCreeds();
        for (int stair = 11; stair >= 0; stair--) {
            Due.is("stair " + stair, x.stair(stair, 4, 5, stair - 6), 12 - stair);
        }
        Due.is("told(6)", x.told(6), 4095);
        for (int stair = 0; stair < 12; stair++) {
            Due.is("told of stair " + stair, x.told(300 + stair), 4504 + stair);
        }
    }

    private static void promise7Anew() {
        PlumbCreeds x = Due.three();
        x.stair(4, 0, 1, 0);
        Due.is("anew: as many", x.stair(4, 7, 6, 3), 1);
        Due.is("anew: told", x.told(304), 7613);
        Due.is("anew: where it went it goes no more", x.reach(1, 0), 1);
        Due.is("anew: it goes so", x.reach(1, 6), 192);
        Due.is("both ways", x.reach(1, 7), 192);
    }

    private static void promise7Refused() {
        Edge.refused("stair(n, 3, 4, 0)", 0, 11, UNKNOWN, (x, n) -> x.stair(n, 3, 4, 0));
        Edge.refused("stair(0, n, 4, 0)", 0, 9, OUTSIDE, (x, n) -> x.stair(0, n, 4, 0));
        Edge.refused("stair(0, 3, n, 0)", 0, 9, OUTSIDE, (x, n) -> x.stair(0, 3, n, 0));
        Edge.refused("stair(0, 3, 4, n)", -9, 9, OUTSIDE, (x, n) -> x.stair(0, 3, 4, n));
        Edge.refused("stair(5, n, n, 0)", 0, 9, OUTSIDE, (x, n) -> x.stair(5, n, n, 0));
        for (int place = 0; place < 10; place++) {
            Edge.refusedAt("stair(5, n, n, 0)", place, OUTSIDE, (x, n) -> x.stair(5, n, n, 0));
        }
    }

    private static void promise7FirstRefusal() {
        Edge.refused("stair(n, 3, 3, 0)", 0, 11, UNKNOWN, (x, n) -> x.stair(n, 3, 3, 0));
        Edge.refused("stair(n, 10, 4, 0)", 0, 11, UNKNOWN, (x, n) -> x.stair(n, 10, 4, 0));
        Edge.refused("stair(n, 3, -1, 0)", 0, 11, UNKNOWN, (x, n) -> x.stair(n, 3, -1, 0));
        Edge.refused("stair(n, 3, 4, 10)", 0, 11, UNKNOWN, (x, n) -> x.stair(n, 3, 4, 10));
    }

    private static void promise8LeastAndGreatest() {
        PlumbCreeds x = new PlumbCreeds();
        Due.is("say(33)", x.say(33), 1);
        Due.is("say(126)", x.say(126), 2);
        Due.is("told(0)", x.told(0), 2);
        PlumbCreeds y = new PlumbCreeds();
        for (int sign = 33; sign <= 92; sign++) {
            Due.is("say(" + sign + ")", y.say(sign), sign - 32);
        }
        PlumbCreeds z = new PlumbCreeds();
        for (int sign = 93; sign <= 126; sign++) {
            Due.is("say(" + sign + ")", z.say(sign), sign - 92);
        }
    }

    private static void promise8Refused() {
        Edge.refused("say(n)", 33, 126, OUTSIDE, (x, n) -> x.say(n));
        Edge.refusedAt("say(n)", 0, OUTSIDE, (x, n) -> x.say(n));
        Edge.refusedAt("say(n)", 65536 + 'A', OUTSIDE, (x, n) -> x.say(n));
    }

    private static PlumbCreeds full(String text) {
        PlumbCreeds x = Due.three();
        Due.write(x, text);
        Due.is("the PAD is full", x.told(0), 60);
        return x;
    }

    private static void promise8FullPad() {
        PlumbCreeds x = full("A0".repeat(30));
        Due.is("the 61st sign", x.say('*'), FULL);
        Due.is("the 62nd sign", x.say('A'), FULL);
        Due.is("still 60", x.told(0), 60);
        Due.is("they are not there", x.fault(), NONE);
        Edge.alike("FULL", x, full("A0".repeat(30)));
        PlumbCreeds y = full(".".repeat(60));
        y.wipe();
        Due.is("behind wipe() there is room", y.say('.'), 1);
        PlumbCreeds z = full(".".repeat(60));
        Due.is("done()", z.done(), 60);
        Due.is("behind done() there is room", z.say('.'), 1);
    }

    private static void promise8FirstRefusal() {
        for (int sign : new int[] {32, 127, Integer.MIN_VALUE, Integer.MAX_VALUE}) {
            PlumbCreeds x = full("B1".repeat(30));
            Due.is("say(" + sign + ") on a full PAD", x.say(sign), OUTSIDE);
            Edge.alike("say(" + sign + ") on a full PAD", x, full("B1".repeat(30)));
        }
    }

    private static void promise9EmptyPad() {
        PlumbCreeds x = new PlumbCreeds();
        Due.is("wipe() of nothing", x.wipe(), 0);
        Due.is("wipe() of nothing again", x.wipe(), 0);
        Due.is("told(0)", x.told(0), 0);
        Due.is("say('A')", x.say('A'), 1);
        Due.is("wipe() of one", x.wipe(), 1);
        Due.is("fault() behind it", x.fault(), NONE);
        Due.is("wipe() behind it", x.wipe(), 0);
    }

    private static void promise9FullPad() {
        PlumbCreeds x = full("C^7".repeat(20));
        Due.is("wipe()", x.wipe(), 60);
        Edge.alike("wipe() of a full PAD", x, Due.three());
    }

    private static void promise10EmptyPad() {
        PlumbCreeds x = Due.three();
        Due.is("fault() of nothing", x.fault(), NONE);
        Due.write(x, "A");
        Due.is("fault() of A", x.fault(), 1);
        x.wipe();
        Due.is("fault() behind wipe()", x.fault(), NONE);
        Due.carryOut(x, "*", 1);
        Due.is("fault() behind done()", x.fault(), NONE);
    }

    private static void promise10EachSignAlone() {
        for (int sign = 33; sign <= 126; sign++) {
            boolean isOne = "ABCDEFG".indexOf(sign) >= 0;
            boolean isAct = "*.".indexOf(sign) >= 0;
            faulty("" + (char) sign, isOne ? 1 : isAct ? NONE : 0);
            faulty("*" + (char) sign, isOne ? 2 : isAct ? NONE : 1);
        }
    }

    private static void promise10EachSignBehindAOne() {
        for (int sign = 33; sign <= 126; sign++) {
            boolean isAct = "01234567xyz".indexOf(sign) >= 0;
            faulty("A" + (char) sign, isAct ? NONE : sign == '^' ? 2 : 1);
            faulty(".G" + (char) sign, isAct ? NONE : sign == '^' ? 3 : 2);
        }
    }

    private static void promise10EachSignBehindAClimb() {
        for (int sign = 33; sign <= 126; sign++) {
            boolean isAct = "01234567".indexOf(sign) >= 0;
            faulty("A^" + (char) sign, isAct ? NONE : 2);
            faulty("GzB^" + (char) sign, isAct ? NONE : 4);
        }
    }

    private static void faulty(String text, int place) {
        PlumbCreeds x = new PlumbCreeds();
        Due.write(x, text);
        Due.is("fault() of " + text, x.fault(), place);
    }

    private static void promise10FullPad() {
        faulty("*".repeat(60), NONE);
        faulty("A^7".repeat(20), NONE);
        faulty("G0".repeat(30), NONE);
        faulty("*".repeat(59) + "z", 59);
        faulty("*".repeat(59) + "A", 60);
        faulty("*".repeat(58) + "A^", 60);
        faulty("*".repeat(58) + "AA", 59);
        faulty("H" + "*".repeat(59), 0);
        faulty("A" + "*".repeat(59), 1);
    }

    private static void promise10FirstFault() {
        faulty("A*H8", 1);
        faulty("H*A", 0);
        faulty("*A8A", 2);
        faulty("A0xA", 2);
        faulty("A^8^", 2);
    }
}
