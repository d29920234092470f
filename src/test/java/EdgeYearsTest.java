import java.util.function.ToLongFunction;

/** The boundary cases of ACTS and of promises 11 to 16, a test each. */
public final class EdgeYearsTest {
    private static final int NONE = PlumbCreeds.NONE, UNKNOWN = PlumbCreeds.UNKNOWN, OUTSIDE = PlumbCreeds.OUTSIDE;
    private static final int NO = PlumbCreeds.NO;

    public static void main(String[] args) {
        actsOfDoubt();
        actsOfDoubtAboveNine();
        actsOfConversion();
        actsOfBuilding();
        actsOfQuakes();
        actsOfQuakesWithLeastAndGreatestBear();
        promise11EmptyPad();
        promise11FullPad();
        promise11NoOnes();
        promise11AllSeven();
        promise11NoWallStands();
        promise11SameCreed();
        promise11DoubtNine();
        promise11LastYear();
        promise11LeastReason();
        promise11FirstAct();
        promise11Refused();
        promise11FirstRefusal();
        promise12EmptyPad();
        promise12FullPad();
        promise12LastYear();
        promise12Refused();
        promise13EmptyPad();
        promise13FullPad();
        promise13Refused();
        promise13FirstRefusal();
        promise14EmptyPad();
        promise14StandsNoMore();
        promise14LeastAndGreatest();
        promise14Refused();
        promise14FirstRefusal();
        promise15EmptyPad();
        promise15NobodyFell();
        promise15FullPad();
        promise15LastYear();
        promise15Refused();
        promise15FirstRefusal();
        promise16NoWallStands();
        promise16AllEight();
        promise16ByBearAtMost();
        promise16LeastAndGreatestBear();
        promise16Refused();
        questionsDoNothing();
        Due.end("EdgeYearsTest");
    }

    /** Behind the text DOUBT and CREED of somebody are these, and DONE makes of them what BEHIND told. */
    private static void becomes(PlumbCreeds x, String text, int one, int creed, int doubt) {
        Due.write(x, text);
        Due.is("behind " + text + ": creed", x.behind(one, 0), creed);
        Due.is("behind " + text + ": doubt", x.behind(one, 1), doubt);
        Due.isTrue("done() of " + text, x.done() > 0);
        Due.is("now, of " + text + ": creed", x.told(20 * (1 + one)), creed);
        Due.is("now, of " + text + ": doubt", x.told(20 * (1 + one) + 1), doubt);
    }

    private static PlumbCreeds doubting(int doubt) {
        PlumbCreeds x = Due.three();
        Due.carryOut(x, "A0B1", 2);
        x.one(2, 2, doubt);
        return x;
    }

    private static void actsOfDoubt() {
        becomes(doubting(0), "C^1", 2, 2, 0);
        becomes(doubting(1), "C^1", 2, 2, 0);
        becomes(doubting(1), "C^1C^1", 2, 2, 0);
        becomes(doubting(9), "C^1", 2, 2, 8);
        becomes(doubting(0), "C^0", 2, 2, 3);
        becomes(doubting(6), "C^0", 2, 2, 9);
    }

    private static void actsOfDoubtAboveNine() {
        becomes(doubting(7), "C^0", 2, 0, 0);
        becomes(doubting(8), "C^0", 2, 0, 0);
        becomes(doubting(9), "C^0", 2, 0, 0);
        becomes(doubting(0), "C^0C^0C^0", 2, 2, 9);
        becomes(doubting(0), "C^0C^0C^0C^0", 2, 0, 0);
        becomes(doubting(0), "C^0C^0C^0C^0C^0", 2, 0, 0);
        becomes(doubting(7), "C^0C^1", 2, 0, 0);
        PlumbCreeds x = doubting(7);
        x.creed(2, -9);
        Due.carryOut(x, "CyCzC2", 3);
        x.creed(2, 9);
        x.one(2, 2, 7);
        becomes(x, "C^2", 2, 2, 0);
    }

    private static void actsOfConversion() {
        becomes(doubting(0), "Cx", 2, 0, 5);
        becomes(doubting(9), "Cy", 2, 1, 5);
        becomes(doubting(5), "CyCz", 2, 2, 5);
        becomes(doubting(9), "CyC7C^7", 2, 1, 4);
    }

    private static void actsOfBuilding() {
        PlumbCreeds x = doubting(8);
        x.creed(2, 9);
        Due.carryOut(x, "C0C7", 2);
        Due.is("built anew: lean", x.told(200), 19);
        Due.is("built anew: creed", x.told(201), 2);
        Due.is("wall 7: lean", x.told(270), 19);
        Due.is("building leaves doubt as it was", x.told(61), 8);
        Due.is("walls that stand", x.told(2), 131);
        x.creed(2, -9);
        Due.carryOut(x, "CxC6CzC5", 4);
        Due.is("by whom he holds with then: lean", x.told(260), 7);
        Due.is("by whom he holds with then: creed", x.told(261), 0);
        Due.is("and behind that: lean", x.told(250), 1);
        Due.is("and behind that: creed", x.told(251), 2);
    }

    /** A wall each at -4, -3, 0, 3 and 4. */
    private static PlumbCreeds leaning() {
        PlumbCreeds x = new PlumbCreeds();
        int[] leans = {-4, -3, 0, 3, 4};
        x.one(6, 1, 0);
        for (int wall = 0; wall < leans.length; wall++) {
            x.creed(1, leans[wall]);
            Due.carryOut(x, "G" + wall, 1);
        }
        return x;
    }

    private static void actsOfQuakes() {
        int[] bears = {0, 2, 3, 4, 18};
        int[] standing = {4, 4, 14, 31, 31};
        for (int i = 0; i < bears.length; i++) {
            PlumbCreeds x = leaning();
            x.bear(bears[i]);
            Due.write(x, "*");
            for (int wall = 0; wall < 8; wall++) {
                Due.is("behind a quake, BEAR " + bears[i] + ": wall " + wall,
                        x.wall(wall, 0) == NONE ? 0 : 1, standing[i] >> wall & 1);
            }
            Due.is("done()", x.done(), 1);
            Due.is("a quake, BEAR " + bears[i], x.told(2), standing[i]);
        }
        PlumbCreeds x = new PlumbCreeds();
        Due.carryOut(x, "*", 1);
        Due.is("a quake where nothing stands", x.told(2), 0);
    }

    private static void actsOfQuakesWithLeastAndGreatestBear() {
        PlumbCreeds x = Due.three();
        x.creed(0, -9);
        x.creed(1, 9);
        x.creed(2, 0);
        Due.carryOut(x, "A0B1C2", 3);
        x.bear(9);
        Due.carryOut(x, "*", 1);
        Due.is("BEAR 9", x.told(2), 7);
        x.bear(8);
        Due.write(x, "*A3*C4B4");
        Due.is("a wall that falls and is built anew", x.wall(4, 0), 19);
        Due.is("a wall built between two quakes", x.wall(3, 0), NONE);
        Due.is("done()", x.done(), 5);
        Due.is("BEAR 8", x.told(2), 20);
        x.bear(0);
        Due.carryOut(x, "**", 2);
        Due.is("BEAR 0", x.told(2), 4);
    }

    private static void judged(PlumbCreeds x, String text, int act, int why) {
        Due.write(x, text);
        Due.is("judge(0) of " + text, x.judge(0), act);
        Due.is("judge(1) of " + text, x.judge(1), why);
        Due.is("done() of " + text, x.done() == NO ? 1 : 0, act == NONE ? 0 : 1);
    }

    private static void promise11EmptyPad() {
        judged(new PlumbCreeds(), "", NONE, NONE);
        judged(Due.three(), "", NONE, NONE);
    }

    private static void promise11FullPad() {
        judged(Due.three(), "*".repeat(60), NONE, NONE);
        judged(Due.three(), "A0".repeat(30), NONE, NONE);
        judged(Due.three(), "*".repeat(58) + "D0", 58, 1);
        judged(Due.three(), "*".repeat(57) + "A^0", 57, 2);
        judged(Due.three(), "A0".repeat(29) + "Ax", 29, 3);
        judged(Due.three(), "A0" + "B^0".repeat(19) + ".", NONE, NONE);
    }

    private static void promise11NoOnes() {
        String[] deeds = {"0", "^0", "x"};
        for (String deed : deeds) {
            for (char one = 'A'; one <= 'G'; one++) {
                judged(new PlumbCreeds(), one + deed, 0, 1);
            }
        }
        judged(new PlumbCreeds(), "*", NONE, NONE);
        judged(new PlumbCreeds(), ".", NONE, NONE);
        judged(new PlumbCreeds(), "*.*G7", 3, 1);
    }

    private static void promise11AllSeven() {
        PlumbCreeds x = new PlumbCreeds();
        for (int one = 0; one < 7; one++) {
            x.one(one, 1, 8);
        }
        judged(x, "A0B1C2D3E4F5G6", NONE, NONE);
        judged(x, "A^6B^5C^4D^3E^2F^1G^0", NONE, NONE);
        judged(x, "AxBzCxDzExFzGx", NONE, NONE);
        x.leave(6);
        judged(x, "A0B1C2D3E4F5G6", 6, 1);
    }

    private static void promise11NoWallStands() {
        for (int wall = 0; wall < 8; wall++) {
            judged(Due.three(), "A^" + wall, 0, 2);
        }
        judged(Due.three(), "A0A^0A^7", 2, 2);
        PlumbCreeds x = Due.three();
        x.bear(2);
        judged(x, "C0C^0*C^0", 3, 2);
        judged(x, "C0*A1B^0", 3, 2);
        judged(x, "C0*A0B^0", NONE, NONE);
        judged(x, "B0*B^0", NONE, NONE);
    }

    private static void promise11SameCreed() {
        judged(Due.three(), "Ax", 0, 3);
        judged(Due.three(), "By", 0, 3);
        judged(Due.three(), "Cz", 0, 3);
        judged(Due.three(), "CyCy", 1, 3);
        judged(Due.three(), "CyCzCz", 2, 3);
        judged(Due.three(), "A0C^0Cx", 2, 3);
        judged(Due.three(), "A0C^0Cz", NONE, NONE);
    }

    private static void promise11DoubtNine() {
        judged(doubting(9), "C2", 0, 4);
        judged(doubting(8), "C2", NONE, NONE);
        judged(doubting(9), "C^1C2", NONE, NONE);
        judged(doubting(6), "C^0C2", 1, 4);
        judged(doubting(9), "C^0C2", NONE, NONE);
        judged(doubting(9), "CyC2", NONE, NONE);
        judged(doubting(9), "C^1", NONE, NONE);
        judged(doubting(9), "B2", NONE, NONE);
    }

    private static PlumbCreeds inYear(int year) {
        PlumbCreeds x = Due.three();
        for (int left = year; left > 0; left -= 60) {
            Due.carryOut(x, ".".repeat(Math.min(left, 60)), Math.min(left, 60));
        }
        Due.is("the year", x.told(4), year);
        return x;
    }

    private static void promise11LastYear() {
        judged(inYear(98), ".", NONE, NONE);
        judged(inYear(98), "..", 1, 5);
        judged(inYear(99), ".", 0, 5);
        judged(inYear(99), "*A0A^0Ay", NONE, NONE);
        judged(inYear(40), ".".repeat(59), NONE, NONE);
        judged(inYear(40), ".".repeat(60), 59, 5);
        judged(inYear(99), "D0.", 0, 1);
    }

    private static void promise11LeastReason() {
        PlumbCreeds x = Due.three();
        x.one(3, 2, 9);
        x.leave(3);
        judged(x, "D^0", 0, 1);
        judged(x, "Dz", 0, 1);
        judged(x, "D0", 0, 1);
        x.one(3, 2, 9);
        judged(x, "D^0", 0, 2);
        judged(x, "Dz", 0, 3);
        judged(x, "D0", 0, 4);
    }

    private static void promise11FirstAct() {
        PlumbCreeds x = inYear(99);
        judged(x, ".AxA^0D0", 0, 5);
        judged(x, "A^0.AxD0", 0, 2);
        judged(x, "*Ax.", 1, 3);
        judged(x, "A0B^0Az*D0.", 4, 1);
    }

    private static void promise11Refused() {
        Edge.refused("judge(n)", 0, 1, OUTSIDE, (x, n) -> x.judge(n));
        for (int what = 0; what < 2; what++) {
            int asked = what;
            no("judge(" + what + ")", "A5B", x -> x.judge(asked));
            no("judge(" + what + ")", "A5D0B", x -> x.judge(asked));
            no("judge(" + what + ")", "*".repeat(59) + "A", x -> x.judge(asked));
        }
    }

    private static void promise11FirstRefusal() {
        outsideOfAFault("judge(n)", 0, 1, (x, n) -> x.judge(n));
    }

    private static PlumbCreeds written(String text) {
        PlumbCreeds x = Edge.rich();
        Due.write(x, text);
        return x;
    }

    /** The call is refused with NO, and nothing changes by it. */
    private static void no(String call, String text, ToLongFunction<PlumbCreeds> asked) {
        PlumbCreeds x = written(text);
        Due.is(call + " of " + text, asked.applyAsLong(x), NO);
        Edge.alike(call + " of " + text, x, written(text));
    }

    private static void outsideOfAFault(String call, int least, int most, Edge.Call asked) {
        for (String text : new String[] {"A5B", "A5D0"}) {
            for (int number : new int[] {least - 1, most + 1, Integer.MIN_VALUE, Integer.MAX_VALUE}) {
                PlumbCreeds x = written(text);
                Due.is(call + " of " + text + ", n = " + number, asked.with(x, number), OUTSIDE);
                Edge.alike(call + " of " + text, x, written(text));
            }
        }
    }

    private static void promise12EmptyPad() {
        PlumbCreeds x = Due.three();
        Due.is("done() of nothing", x.done(), 0);
        Due.is("done() of nothing again", x.done(), 0);
        Edge.alike("done() of nothing", x, Due.three());
    }

    private static void promise12FullPad() {
        PlumbCreeds x = Due.three();
        Due.carryOut(x, "*".repeat(60), 60);
        Due.carryOut(x, "A0".repeat(30), 30);
        Due.carryOut(x, "A^0".repeat(20), 20);
        Due.is("the PAD is empty then", x.told(0), 0);
        Due.is("done() behind it", x.done(), 0);
        Due.is("told(2)", x.told(2), 1);
    }

    private static void promise12LastYear() {
        PlumbCreeds x = inYear(98);
        Due.carryOut(x, ".", 1);
        Due.is("the last year", x.told(4), 99);
        Due.write(x, ".");
        Due.is("done() in the last year", x.done(), NO);
        Due.is("it is that year", x.told(4), 99);
        Due.is("the PAD stays", x.told(0), 1);
    }

    private static void promise12Refused() {
        String[] texts = {"A5B", "A5D0", "A5A^7", "A5Ax", "A5C6", "A5B^", "A58", "*".repeat(59) + "A",
            "A0".repeat(29) + "Ax"};
        for (String text : texts) {
            no("done()", text, PlumbCreeds::done);
        }
    }

    private static void promise13EmptyPad() {
        PlumbCreeds x = written("");
        Due.is("behind nothing: creed", x.behind(2, 0), 2);
        Due.is("behind nothing: doubt", x.behind(2, 1), 9);
        Due.is("behind nothing: doubt of B", x.behind(1, 1), 4);
    }

    private static void promise13FullPad() {
        PlumbCreeds x = Due.three();
        Due.write(x, "A0" + "C^0".repeat(19) + "*");
        Due.is("he fell and holds with x", x.behind(2, 0), 0);
        Due.is("and doubts no more", x.behind(2, 1), 0);
        Due.is("now he holds with z", x.told(60), 2);
        Due.is("now he doubts", x.told(61), 8);
    }

    private static void promise13Refused() {
        Edge.refused("behind(n, 0)", 0, 6, UNKNOWN, (x, n) -> x.behind(n, 0));
        Edge.refusedAt("behind(n, 1), who is not there", 3, UNKNOWN, (x, n) -> x.behind(n, 1));
        Edge.refused("behind(0, n)", 0, 1, OUTSIDE, (x, n) -> x.behind(0, n));
        no("behind(0, 0)", "A5B", x -> x.behind(0, 0));
        no("behind(4, 1)", "A5D0", x -> x.behind(4, 1));
        Due.is("behind(n, what) is taken", Edge.rich().behind(4, 1), 5);
    }

    private static void promise13FirstRefusal() {
        Edge.refused("behind(n, 2)", 0, 6, UNKNOWN, (x, n) -> x.behind(n, 2));
        Edge.refused("behind(3, n), who is not there", 0, 1, UNKNOWN, (x, n) -> x.behind(3, n));
        outsideOfAFault("behind(0, n)", 0, 1, (x, n) -> x.behind(0, n));
        for (String text : new String[] {"A5B", "A5D0"}) {
            for (int one : new int[] {-1, 3, 5, 6, 7, Integer.MIN_VALUE, Integer.MAX_VALUE}) {
                Due.is("behind(" + one + ", 0) of " + text, written(text).behind(one, 0), UNKNOWN);
            }
        }
    }

    private static void promise14EmptyPad() {
        PlumbCreeds x = written("");
        Due.is("behind nothing: lean", x.wall(3, 0), 11);
        Due.is("behind nothing: creed", x.wall(3, 1), 1);
        Due.is("behind nothing: what does not stand", x.wall(5, 0), NONE);
        Due.is("behind nothing: what does not stand, its creed", x.wall(5, 1), NONE);
    }

    private static void promise14StandsNoMore() {
        PlumbCreeds x = written("*");
        x.bear(2);
        Due.is("it stands now", x.told(2), 9);
        Due.is("it stands no more then: lean", x.wall(0, 0), NONE);
        Due.is("it stands no more then: creed", x.wall(0, 1), NONE);
        Due.is("it stands then: lean", x.wall(3, 0), 11);
        Due.is("it stands then: creed", x.wall(3, 1), 1);
    }

    private static void promise14LeastAndGreatest() {
        PlumbCreeds x = Due.three();
        x.creed(0, -9);
        x.creed(2, 9);
        Due.write(x, "A0C7");
        Due.is("the least lean", x.wall(0, 0), 1);
        Due.is("the least creed", x.wall(0, 1), 0);
        Due.is("the greatest lean", x.wall(7, 0), 19);
        Due.is("the greatest creed", x.wall(7, 1), 2);
        Due.is("none of them stands now", x.told(2), 0);
    }

    private static void promise14Refused() {
        Edge.taken("wall(n, 0)", 0, 7, (x, n) -> x.wall(n, 0));
        Edge.refused("wall(n, 0)", 0, 7, UNKNOWN, (x, n) -> x.wall(n, 0));
        Edge.refused("wall(0, n)", 0, 1, OUTSIDE, (x, n) -> x.wall(0, n));
        Edge.refused("wall(6, n), which does not stand", 0, 1, OUTSIDE, (x, n) -> x.wall(6, n));
        no("wall(0, 0)", "A5B", x -> x.wall(0, 0));
        no("wall(6, 1)", "A5B", x -> x.wall(6, 1));
        no("wall(0, 1)", "A5D0", x -> x.wall(0, 1));
        no("wall(6, 0)", "A5D0", x -> x.wall(6, 0));
    }

    private static void promise14FirstRefusal() {
        Edge.refused("wall(n, 2)", 0, 7, UNKNOWN, (x, n) -> x.wall(n, 2));
        outsideOfAFault("wall(0, n)", 0, 1, (x, n) -> x.wall(0, n));
        for (int wall : new int[] {-1, 8, Integer.MIN_VALUE, Integer.MAX_VALUE}) {
            Due.is("wall(" + wall + ", 0) of a fault", written("A5B").wall(wall, 0), UNKNOWN);
            Due.is("wall(" + wall + ", 0) of what can not be", written("A5D0").wall(wall, 0), UNKNOWN);
        }
    }

    private static void fallen(PlumbCreeds x, String text, int act, int who, int falls, int year) {
        Due.write(x, text);
        Due.is("fell(0) of " + text, x.fell(0), act);
        Due.is("fell(1) of " + text, x.fell(1), who);
        Due.is("fell(2) of " + text, x.fell(2), falls);
        Due.is("fell(3) of " + text, x.fell(3), year);
    }

    private static void promise15EmptyPad() {
        fallen(new PlumbCreeds(), "", NONE, NONE, 0, 0);
        fallen(inYear(7), "", NONE, NONE, 0, 7);
        PlumbCreeds x = Due.three();
        Due.carryOut(x, "A0C^0.", 3);
        fallen(x, "", NONE, NONE, 0, 1);
    }

    private static void promise15NobodyFell() {
        fallen(Due.three(), "A0A^0B^0*.", NONE, NONE, 0, 1);
        fallen(new PlumbCreeds(), "*", NONE, NONE, 0, 0);
        PlumbCreeds x = Due.three();
        x.bear(6);
        fallen(x, "A0C^0", NONE, NONE, 0, 0);
        x.bear(5);
        fallen(x, "A0C^0", 1, 2, 1, 0);
    }

    private static void promise15FullPad() {
        PlumbCreeds x = Due.three();
        x.one(6, 2, 0);
        fallen(x, "A0" + "*".repeat(55) + "G^0", 56, 6, 1, 0);
        fallen(x, "C0" + "A^0".repeat(19) + ".", 1, 0, 4, 1);
        x.bear(0);
        x.one(1, 0, 0);
        Due.carryOut(x, "G0A1", 2);
        fallen(x, "A^0B^0".repeat(10), 0, 0, 8, 0);
        fallen(x, "G^1A^0".repeat(10), 0, 6, 8, 0);
    }

    private static void promise15LastYear() {
        fallen(inYear(98), ".", NONE, NONE, 0, 99);
        fallen(inYear(99), "*", NONE, NONE, 0, 99);
        PlumbCreeds x = inYear(99);
        Due.write(x, ".");
        Due.is("fell(3) of a year too many", x.fell(3), NO);
    }

    private static void promise15Refused() {
        Edge.refused("fell(n)", 0, 3, OUTSIDE, (x, n) -> x.fell(n));
        Edge.taken("fell(n)", 0, 3, (x, n) -> x.fell(n));
        for (int what = 0; what < 4; what++) {
            int asked = what;
            no("fell(" + what + ")", "A5B", x -> x.fell(asked));
            no("fell(" + what + ")", "A5D0", x -> x.fell(asked));
        }
    }

    private static void promise15FirstRefusal() {
        outsideOfAFault("fell(n)", 0, 3, (x, n) -> x.fell(n));
    }

    private static void promise16NoWallStands() {
        PlumbCreeds x = Due.three();
        Due.is("bears(0), nothing stands", x.bears(0), 0);
        Due.write(x, "A0");
        Due.is("bears(0), not yet done", x.bears(0), 0);
        x.done();
        Due.is("bears(0), done", x.bears(0), 1);
        x.bear(0);
        Due.write(x, "*");
        Due.is("bears(0), no quake yet", x.bears(0), 1);
        x.done();
        Due.is("bears(0), behind the quake", x.bears(0), 0);
    }

    private static void promise16AllEight() {
        PlumbCreeds x = Due.three();
        x.one(6, 1, 9);
        Due.carryOut(x, "A0B1A2B3A4B5A6B7", 8);
        Due.is("bears(0)", x.bears(0), 255);
        Due.is("bears(6), who doubts", x.bears(6), 255);
        Due.is("bears(2)", x.bears(2), 170);
    }

    private static void promise16ByBearAtMost() {
        PlumbCreeds x = Due.three();
        int[] leans = {0, 1, -6, -7, -3};
        for (int wall = 0; wall < leans.length; wall++) {
            x.creed(1, leans[wall]);
            Due.carryOut(x, "B" + wall, 1);
        }
        Due.is("bears(0): 3 more, not 4; 3 less, not 4", x.bears(0), 21);
        x.bear(4);
        Due.is("bears(0), BEAR 4", x.bears(0), 31);
    }

    private static void promise16LeastAndGreatestBear() {
        PlumbCreeds x = Due.three();
        x.creed(0, -9);
        x.creed(1, -8);
        x.creed(2, 9);
        Due.carryOut(x, "A0B1C2", 3);
        x.bear(0);
        Due.is("bears(0), BEAR 0", x.bears(0), 1);
        Due.is("bears(2), BEAR 0", x.bears(2), 4);
        x.bear(17);
        Due.is("bears(0), BEAR 17", x.bears(0), 3);
        Due.is("bears(2), BEAR 17", x.bears(2), 6);
        x.bear(18);
        Due.is("bears(0), BEAR 18", x.bears(0), 7);
        Due.is("bears(2), BEAR 18", x.bears(2), 7);
    }

    private static void promise16Refused() {
        Edge.refused("bears(n)", 0, 6, UNKNOWN, (x, n) -> x.bears(n));
        for (int one : new int[] {3, 5, 6}) {
            Edge.refusedAt("bears(n), who is not there", one, UNKNOWN, (x, n) -> x.bears(n));
        }
    }

    private static void questionsDoNothing() {
        Edge.changesNothing("questions of YEARS", x -> {
            x.fault();
            for (int what = 0; what < 2; what++) {
                x.judge(what);
                x.behind(0, what);
                x.wall(5, what);
                x.fell(what);
                x.fell(2 + what);
                x.bears(what);
            }
        });
    }
}
