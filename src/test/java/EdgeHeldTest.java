/** The boundary cases of promises 22 to 32, a test each. */
public final class EdgeHeldTest {
    private static final int NONE = PlumbCreeds.NONE, UNKNOWN = PlumbCreeds.UNKNOWN, OUTSIDE = PlumbCreeds.OUTSIDE;
    private static final int STATE = PlumbCreeds.STATE, FULL = PlumbCreeds.FULL;

    public static void main(String[] args) {
        promise22LeastAndGreatest();
        promise22Full();
        promise22Refused();
        promise22FirstRefusal();
        promise23NoSights();
        promise23AllSights();
        promise24NoSights();
        promise24NoDowns();
        promise24LeastAndGreatest();
        promise24EightSights();
        promise25NoSights();
        promise25NoDowns();
        promise25OneOrTwoLeft();
        promise25LeastOfSeveral();
        promise25EightSights();
        promise25Refused();
        promise26NoYears();
        promise26MostYears();
        promise26NoKin();
        promise26OfSeveral();
        promise26AllSeven();
        promise26Refused();
        promise26FirstRefusal();
        promise27Nobody();
        promise27AllSeven();
        promise27GreatestCreeds();
        promise27InTurn();
        promise27Refused();
        promise28NoFloors();
        promise28MostFloors();
        promise28TheSame();
        promise28SurelyFalls();
        promise28NeverFalls();
        promise28PartOfWhether();
        promise28Refused();
        promise29EachKindOfAct();
        promise29WhatCanNotBe();
        promise29LeastAndGreatest();
        promise29Refused();
        promise30LeastAndGreatest();
        promise30AllButThePad();
        promise30OfNothing();
        promise30Refused();
        promise31NotKept();
        promise31Twice();
        promise31EachPart();
        promise31FullPad();
        promise31Refused();
        promise32Empty();
        promise32All();
        promise32StandsNoMore();
        promise32Refused();
        questionsDoNothing();
        Due.end("EdgeHeldTest");
    }

    private static void promise22LeastAndGreatest() {
        int[][] sights = {{-9, 0, 0}, {-9, 1, 1}, {-9, 2, 18}, {9, 0, 18}, {9, 1, 1}, {9, 2, 0},
            {0, 0, 9}, {0, 1, 1}, {0, 2, 9}};
        for (int[] sight : sights) {
            PlumbCreeds x = new PlumbCreeds();
            Due.is("seen(" + sight[0] + ", " + sight[1] + ")", x.seen(sight[0], sight[1]), 1);
            Due.is("downs behind it", x.downs(-1), sight[2]);
        }
        Edge.taken("seen(n, 0)", -9, 9, (x, n) -> x.seen(n, 0));
        Edge.taken("seen(0, n)", 0, 2, (x, n) -> x.seen(0, n));
    }

    private static PlumbCreeds full() {
        PlumbCreeds x = new PlumbCreeds();
        for (int count = 1; count <= 8; count++) {
            Due.is("sight " + count, x.seen(count - 8, 2), count);
        }
        return x;
    }

    private static void promise22Full() {
        PlumbCreeds x = full();
        Due.is("the ninth sight", x.seen(0, 0), FULL);
        Due.is("the tenth sight, as one before", x.seen(0, 2), FULL);
        Due.is("still eight", x.told(5), 8);
        Edge.alike("FULL", x, full());
        PlumbCreeds y = new PlumbCreeds();
        for (int count = 1; count <= 8; count++) {
            Due.is("the same sight again, " + count, y.seen(3, 1), count);
        }
        Due.is("downs", y.downs(-1), 1);
        Due.is("the ninth", y.seen(3, 1), FULL);
    }

    private static void promise22Refused() {
        Edge.refused("seen(n, 1)", -9, 9, OUTSIDE, (x, n) -> x.seen(n, 1));
        Edge.refused("seen(1, n)", 0, 2, OUTSIDE, (x, n) -> x.seen(1, n));
    }

    private static void promise22FirstRefusal() {
        for (int number : new int[] {-10, 10, Integer.MIN_VALUE, Integer.MAX_VALUE}) {
            PlumbCreeds x = full();
            Due.is("seen(" + number + ", 0), eight seen", x.seen(number, 0), OUTSIDE);
            Due.is("seen(0, " + number + "), eight seen", x.seen(0, number), OUTSIDE);
            Due.is("seen(0, -1), eight seen", x.seen(0, -1), OUTSIDE);
            Due.is("seen(0, 3), eight seen", x.seen(0, 3), OUTSIDE);
            Edge.alike("seen(" + number + ", 0), eight seen", x, full());
        }
    }

    private static void promise23NoSights() {
        PlumbCreeds x = new PlumbCreeds();
        Due.is("forget() of nothing", x.forget(), 0);
        Due.is("forget() of nothing again", x.forget(), 0);
        Edge.alike("forget() of nothing", x, new PlumbCreeds());
    }

    private static void promise23AllSights() {
        PlumbCreeds x = full();
        Due.is("forget()", x.forget(), 8);
        Due.is("told(5)", x.told(5), 0);
        Edge.alike("forget() of eight", x, new PlumbCreeds());
        PlumbCreeds y = full();
        y.forget();
        Due.is("seen behind forget()", y.seen(9, 0), 1);
        Due.is("downs behind forget()", y.downs(-1), 18);
    }

    private static void promise24NoSights() {
        PlumbCreeds x = new PlumbCreeds();
        Due.is("downs(-1)", x.downs(-1), 19);
        for (int i = 0; i < 19; i++) {
            Due.is("downs(" + i + ")", x.downs(i), i + 1);
        }
        for (int i : new int[] {19, 20, 31, 32, Integer.MAX_VALUE, -2, -3, -19, -20, Integer.MIN_VALUE}) {
            Due.is("downs(" + i + ")", x.downs(i), NONE);
        }
    }

    private static void promise24NoDowns() {
        int[][][] contrary = {{{-9, 0}}, {{9, 2}}, {{0, 0}, {0, 1}}, {{0, 0}, {0, 2}}, {{0, 0}, {-1, 2}}, {{4, 1}, {5, 1}}};
        for (int[][] sights : contrary) {
            PlumbCreeds x = new PlumbCreeds();
            for (int[] sight : sights) {
                x.seen(sight[0], sight[1]);
            }
            Due.is("no downs: how many", x.downs(-1), 0);
            for (int i : new int[] {0, 1, 18, 19, -2, Integer.MIN_VALUE, Integer.MAX_VALUE}) {
                Due.is("no downs: " + i, x.downs(i), NONE);
            }
        }
    }

    private static void promise24LeastAndGreatest() {
        PlumbCreeds x = new PlumbCreeds();
        x.seen(-8, 0);
        Due.is("downs(-1), the least alone", x.downs(-1), 1);
        Due.is("downs(0), the least alone", x.downs(0), 1);
        Due.is("downs(1), the least alone", x.downs(1), NONE);
        x.forget();
        x.seen(8, 2);
        Due.is("downs(-1), the greatest alone", x.downs(-1), 1);
        Due.is("downs(0), the greatest alone", x.downs(0), 19);
        Due.is("downs(1), the greatest alone", x.downs(1), NONE);
    }

    private static void promise24EightSights() {
        PlumbCreeds x = full();
        Due.is("downs(-1)", x.downs(-1), 9);
        Due.is("downs(0)", x.downs(0), 11);
        Due.is("downs(8)", x.downs(8), 19);
        Due.is("downs(9)", x.downs(9), NONE);
        PlumbCreeds y = new PlumbCreeds();
        for (int count = 0; count < 4; count++) {
            y.seen(count - 5, 2);
            y.seen(5 - count, 0);
        }
        Due.is("between -2 and 2: how many", y.downs(-1), 3);
        Due.is("between -2 and 2: the least", y.downs(0), 9);
        Due.is("between -2 and 2: the greatest", y.downs(2), 11);
    }

    private static void next(PlumbCreeds x, int lean, int left) {
        Due.is("next(0)", x.next(0), lean);
        Due.is("next(1)", x.next(1), left);
    }

    private static void promise25NoSights() {
        next(new PlumbCreeds(), 10, 9);
    }

    private static void promise25NoDowns() {
        PlumbCreeds x = new PlumbCreeds();
        x.seen(-9, 0);
        next(x, NONE, NONE);
        x.forget();
        next(x, 10, 9);
    }

    private static void promise25OneOrTwoLeft() {
        for (int down = -9; down <= 9; down++) {
            PlumbCreeds x = new PlumbCreeds();
            x.seen(down, 1);
            next(x, 1, 1);
        }
        PlumbCreeds x = new PlumbCreeds();
        x.seen(-7, 0);
        next(x, 1, 1);
        x.forget();
        x.seen(7, 2);
        next(x, 18, 1);
    }

    private static void promise25LeastOfSeveral() {
        PlumbCreeds x = new PlumbCreeds();
        x.seen(-5, 0);
        next(x, 2, 2);
        x.forget();
        x.seen(6, 2);
        next(x, 18, 1);
        x.forget();
        x.seen(5, 2);
        next(x, 17, 2);
        x.forget();
        x.seen(-9, 2);
        next(x, 10, 9);
    }

    private static void promise25EightSights() {
        PlumbCreeds x = full();
        next(x, 15, 4);
        Due.is("the ninth", x.seen(5, 0), FULL);
        next(x, 15, 4);
    }

    private static void promise25Refused() {
        Edge.refused("next(n)", 0, 1, OUTSIDE, (x, n) -> x.next(n));
        PlumbCreeds x = new PlumbCreeds();
        x.seen(9, 2);
        Due.is("next(2), no downs", x.next(2), OUTSIDE);
        Due.is("next(-1), no downs", x.next(-1), OUTSIDE);
    }

    private static void promise26NoYears() {
        PlumbCreeds x = Due.three();
        x.kin(0, 1, true);
        x.kin(1, 2, true);
        Due.is("settle(0, 0)", x.settle(0, 0), 0);
        Due.is("settle(1, 0)", x.settle(1, 0), 1);
        Due.is("settle(2, 0)", x.settle(2, 0), 2);
        Due.is("settle(0, 1)", x.settle(0, 1), 1);
        Due.is("settle(1, 1)", x.settle(1, 1), 0);
        Due.is("settle(2, 1)", x.settle(2, 1), 1);
    }

    private static void promise26MostYears() {
        PlumbCreeds x = Due.three();
        x.kin(0, 1, true);
        for (int n = 0; n <= 60; n++) {
            Due.is("settle(0, " + n + ")", x.settle(0, n), n % 2);
            Due.is("settle(1, " + n + ")", x.settle(1, n), 1 - n % 2);
            Due.is("settle(2, " + n + ")", x.settle(2, n), 2);
        }
    }

    private static void promise26NoKin() {
        PlumbCreeds x = new PlumbCreeds();
        x.one(6, 2, 0);
        Due.is("he alone", x.settle(6, 60), 2);
        x.kin(6, 0, true);
        x.kin(6, 5, true);
        Due.is("his kin are not there", x.settle(6, 60), 2);
        x.one(0, 1, 0);
        Due.is("one of them comes", x.settle(6, 1), 1);
        x.leave(0);
        Due.is("and leaves", x.settle(6, 1), 2);
        x.one(1, 0, 0);
        Due.is("somebody comes who is none of them", x.settle(6, 60), 2);
    }

    private static void promise26OfSeveral() {
        PlumbCreeds x = new PlumbCreeds();
        for (int one = 0; one < 6; one++) {
            x.one(one, one % 3, 0);
            x.kin(6, one, true);
        }
        for (int creed = 0; creed < 3; creed++) {
            x.one(6, creed, 0);
            Due.is("two of each: his own", x.settle(6, 1), creed);
        }
        x.leave(0);
        x.one(6, 0, 0);
        Due.is("y and z, he holds x: the least", x.settle(6, 1), 1);
        x.one(6, 2, 0);
        Due.is("y and z, he holds z: his own", x.settle(6, 1), 2);
        x.one(0, 0, 0);
        x.leave(1);
        x.one(6, 1, 0);
        Due.is("x and z, he holds y: the least", x.settle(6, 1), 0);
        x.one(6, 2, 0);
        Due.is("x and z, he holds z: his own", x.settle(6, 1), 2);
        x.leave(5);
        Due.is("most hold x", x.settle(6, 1), 0);
    }

    private static void promise26AllSeven() {
        PlumbCreeds x = new PlumbCreeds();
        for (int one = 0; one < 7; one++) {
            x.one(one, one < 3 ? 2 : 0, 0);
            for (int other = 0; other < one; other++) {
                x.kin(one, other, true);
            }
        }
        Due.is("three of his kin are as he, three are not", x.settle(3, 1), 0);
        Due.is("two of his kin are as he, four are not", x.settle(0, 1), 0);
        x.one(3, 2, 0);
        Due.is("now it is the other way", x.settle(6, 1), 2);
        Due.is("for all", x.settle(0, 60), 2);
    }

    private static void promise26Refused() {
        Edge.refused("settle(n, 0)", 0, 6, UNKNOWN, (x, n) -> x.settle(n, 0));
        for (int one : new int[] {3, 5, 6}) {
            Edge.refusedAt("settle(n, 0), who is not there", one, UNKNOWN, (x, n) -> x.settle(n, 0));
        }
        Edge.refused("settle(0, n)", 0, 60, OUTSIDE, (x, n) -> x.settle(0, n));
        Edge.taken("settle(0, n)", 0, 60, (x, n) -> x.settle(0, n));
    }

    private static void promise26FirstRefusal() {
        Edge.refused("settle(n, 61)", 0, 6, UNKNOWN, (x, n) -> x.settle(n, 61));
        Edge.refused("settle(3, n)", 0, 60, UNKNOWN, (x, n) -> x.settle(3, n));
    }

    private static void again(PlumbCreeds x, int year, int between) {
        Due.is("again(0)", x.again(0), year);
        Due.is("again(1)", x.again(1), between);
    }

    private static void promise27Nobody() {
        PlumbCreeds x = new PlumbCreeds();
        again(x, 1, 1);
        x.kin(0, 1, true);
        again(x, 1, 1);
        x.one(0, 0, 0);
        again(x, 1, 1);
        x.one(1, 2, 0);
        again(x, 2, 2);
        x.leave(1);
        again(x, 1, 1);
    }

    private static void promise27AllSeven() {
        PlumbCreeds x = new PlumbCreeds();
        for (int one = 0; one < 7; one++) {
            x.one(one, 1, 0);
        }
        again(x, 1, 1);
        for (int one = 0; one < 6; one++) {
            x.kin(one, one + 1, true);
        }
        again(x, 1, 1);
        x.one(6, 2, 0);
        again(x, 2, 1);
        x.one(5, 2, 0);
        again(x, 1, 1);
    }

    /** All holding z, and two more who change in turn: the last of all that creeds can be. */
    private static void promise27GreatestCreeds() {
        PlumbCreeds x = new PlumbCreeds();
        for (int one = 0; one < 7; one++) {
            x.one(one, 2, 0);
        }
        again(x, 1, 1);
        x.kin(5, 6, true);
        again(x, 1, 1);
        x.one(5, 0, 0);
        x.one(6, 1, 0);
        again(x, 2, 2);
        x.kin(0, 1, true);
        x.one(0, 1, 0);
        again(x, 2, 2);
        x.kin(1, 2, true);
        x.kin(0, 2, true);
        again(x, 3, 2);
    }

    private static void promise27InTurn() {
        PlumbCreeds x = new PlumbCreeds();
        for (int one = 0; one < 7; one++) {
            x.one(one, one % 2 == 0 ? 0 : 2, 0);
            if (one > 0) {
                x.kin(one, one - 1, true);
            }
        }
        again(x, 2, 2);
        Due.is("a row in turn, year 59", x.settle(0, 59), 2);
        Due.is("a row in turn, year 60", x.settle(0, 60), 0);
        Due.carryOut(x, "..", 2);
        again(x, 2, 2);
    }

    private static void promise27Refused() {
        Edge.refused("again(n)", 0, 1, OUTSIDE, (x, n) -> x.again(n));
        Due.is("again(2) of nobody", new PlumbCreeds().again(2), OUTSIDE);
    }

    private static void climbed(int v, int m, int w, int t, long upper, long lower, int first) {
        PlumbCreeds x = new PlumbCreeds();
        String call = "climb(" + v + ", " + m + ", " + w + ", " + t + ", ";
        Due.is(call + "0, 0)", x.climb(v, m, w, t, 0, 0), upper);
        Due.is(call + "0, 1)", x.climb(v, m, w, t, 0, 1), lower);
        Due.is(call + "1, 0)", x.climb(v, m, w, t, 1, 0), first);
        Due.is(call + "1, 1)", x.climb(v, m, w, t, 1, 1), first);
    }

    private static void promise28NoFloors() {
        climbed(0, 0, 1, 0, 0, 1, 0);
        climbed(99, 0, 9, 0, 99, 1, 0);
        climbed(99, 0, 9, 10, 99, 1, 0);
        climbed(1, 0, 1, 5, 1, 1, 0);
    }

    private static void promise28MostFloors() {
        climbed(0, 8, 1, 0, 8, 1, 1);
        climbed(99, 8, 9, 0, 171, 1, 1);
        climbed(0, 8, 1, 1, 43046721, 12500000, 1);
        climbed(0, 8, 9, 1, 387420489, 12500000, 1);
        climbed(99, 8, 9, 1, 99, 1, 0);
        climbed(0, 8, 1, 9, 1, 10, 1);
        climbed(0, 8, 9, 9, 9, 10, 1);
    }

    private static void promise28TheSame() {
        climbed(9, 1, 1, 1, 9, 1, 0);
        climbed(8, 1, 1, 1, 81, 10, 1);
        climbed(10, 1, 1, 1, 10, 1, 0);
        climbed(9, 8, 1, 1, 9, 1, 0);
        climbed(81, 1, 9, 1, 81, 1, 0);
        climbed(80, 1, 9, 1, 801, 10, 1);
        climbed(1, 1, 9, 9, 1, 1, 0);
        climbed(9, 1, 9, 5, 9, 1, 0);
        climbed(0, 2, 9, 5, 9, 2, 1);
        climbed(1, 1, 1, 5, 1, 1, 0);
        climbed(0, 1, 1, 5, 1, 2, 1);
    }

    private static void promise28SurelyFalls() {
        climbed(0, 1, 9, 10, 0, 1, 0);
        climbed(0, 8, 1, 10, 0, 1, 0);
        climbed(1, 8, 9, 10, 1, 1, 0);
        climbed(99, 8, 9, 10, 99, 1, 0);
    }

    private static void promise28NeverFalls() {
        climbed(0, 1, 1, 0, 1, 1, 1);
        climbed(99, 1, 1, 0, 100, 1, 1);
        climbed(99, 8, 1, 0, 107, 1, 1);
    }

    private static void promise28PartOfWhether() {
        PlumbCreeds x = new PlumbCreeds();
        for (int part = 0; part < 2; part++) {
            Due.is("whether, part " + part, x.climb(0, 1, 1, 5, 1, part), 1);
            Due.is("whether not, part " + part, x.climb(1, 1, 1, 5, 1, part), 0);
        }
    }

    private static void promise28Refused() {
        Edge.refused("climb(n, 4, 5, 5, 0, 0)", 0, 99, Edge.LOST, (x, n) -> x.climb(n, 4, 5, 5, 0, 0));
        Edge.refused("climb(50, n, 5, 5, 0, 1)", 0, 8, Edge.LOST, (x, n) -> x.climb(50, n, 5, 5, 0, 1));
        Edge.refused("climb(50, 4, n, 5, 1, 0)", 1, 9, Edge.LOST, (x, n) -> x.climb(50, 4, n, 5, 1, 0));
        Edge.refused("climb(50, 4, 5, n, 1, 1)", 0, 10, Edge.LOST, (x, n) -> x.climb(50, 4, 5, n, 1, 1));
        Edge.refused("climb(50, 4, 5, 5, n, 0)", 0, 1, Edge.LOST, (x, n) -> x.climb(50, 4, 5, 5, n, 0));
        Edge.refused("climb(50, 4, 5, 5, 0, n)", 0, 1, Edge.LOST, (x, n) -> x.climb(50, 4, 5, 5, 0, n));
        Edge.refused("climb(50, 4, 5, 5, 1, n)", 0, 1, Edge.LOST, (x, n) -> x.climb(50, 4, 5, 5, 1, n));
        Edge.refused("climb(50, 0, 5, 5, 1, n)", 0, 1, Edge.LOST, (x, n) -> x.climb(50, 0, 5, 5, 1, n));
        Due.is("LOST and the refusal", Edge.LOST, -1000000000000000002L);
        Edge.taken("climb(n, 8, 9, 1, 0, 0)", 0, 99, (x, n) -> x.climb(n, 8, 9, 1, 0, 0));
        Edge.taken("climb(0, n, 9, 1, 0, 1)", 0, 8, (x, n) -> x.climb(0, n, 9, 1, 0, 1));
        Edge.taken("climb(0, 8, n, 1, 1, 0)", 1, 9, (x, n) -> x.climb(0, 8, n, 1, 1, 0));
        Edge.taken("climb(0, 8, 9, n, 1, 1)", 0, 10, (x, n) -> x.climb(0, 8, 9, n, 1, 1));
    }

    /** A holds x, C holds z, E holds x; walls 1 and 5 stand to x, wall 2 to z, and a quake would fell all three. */
    private static PlumbCreeds bookish() {
        PlumbCreeds x = new PlumbCreeds();
        x.one(0, 0, 1);
        x.one(2, 2, 2);
        x.one(4, 0, 3);
        Due.carryOut(x, "A1C2A5", 3);
        x.bear(2);
        return x;
    }

    private static void booked(PlumbCreeds x, int seed, int m, int walls, int falls, int doubt) {
        Due.is("book(" + seed + ", " + m + ", 0)", x.book(seed, m, 0), walls);
        Due.is("book(" + seed + ", " + m + ", 1)", x.book(seed, m, 1), falls);
        Due.is("book(" + seed + ", " + m + ", 2)", x.book(seed, m, 2), doubt);
    }

    /** By the seeds 0 to 7: C1, E^2, A4, C^5, *, A0, C^1, Ey. */
    private static void promise29EachKindOfAct() {
        int[] walls = {3, 3, 4, 3, 0, 4, 3, 3};
        int[] falls = {0, 1, 0, 1, 0, 0, 1, 0};
        int[] doubt = {6, 9, 6, 9, 6, 6, 9, 8};
        for (int seed = 0; seed < 8; seed++) {
            booked(bookish(), seed, 1, walls[seed], falls[seed], doubt[seed]);
        }
        PlumbCreeds x = bookish();
        x.bear(6);
        booked(x, 1, 1, 3, 0, 5);
        booked(x, 4, 1, 3, 0, 6);
        x.bear(2);
        x.one(4, 0, 7);
        booked(x, 1, 1, 3, 1, 3);
    }

    private static void promise29WhatCanNotBe() {
        for (int seed = 0; seed < 8; seed++) {
            booked(new PlumbCreeds(), seed, 1, 0, 0, 0);
        }
        PlumbCreeds x = bookish();
        x.one(0, 0, 9);
        booked(x, 2, 1, 3, 0, 14);
        booked(x, 5, 1, 3, 0, 14);
        x.one(0, 0, 8);
        booked(x, 2, 1, 4, 0, 13);
        x.one(4, 1, 3);
        booked(x, 7, 1, 3, 0, 13);
        x.leave(4);
        booked(x, 7, 1, 3, 0, 10);
        booked(x, 1, 1, 3, 0, 10);
        Due.carryOut(x, "*", 1);
        booked(x, 3, 1, 0, 0, 10);
        booked(x, 6, 1, 0, 0, 10);
        booked(x, 4, 1, 0, 0, 10);
    }

    private static void promise29LeastAndGreatest() {
        booked(new PlumbCreeds(), 9999, 99, 0, 0, 0);
        PlumbCreeds x = Due.three();
        x.one(3, 0, 0);
        Due.carryOut(x, "C7", 1);
        booked(x, 9999, 1, 1, 1, 11);
        x.bear(6);
        booked(x, 9999, 1, 1, 0, 8);
        booked(Due.three(), 77, 99, 7, 6, 8);
        PlumbCreeds y = new PlumbCreeds();
        for (int one = 0; one < 7; one++) {
            y.one(one, 2, 9);
        }
        booked(y, 0, 1, 0, 0, 63);
        y.leave(6);
        booked(y, 0, 1, 0, 0, 54);
    }

    private static void promise29Refused() {
        Edge.refused("book(n, 1, 0)", 0, 9999, OUTSIDE, (x, n) -> x.book(n, 1, 0));
        Edge.refused("book(0, n, 0)", 1, 99, OUTSIDE, (x, n) -> x.book(0, n, 0));
        Edge.refused("book(0, 1, n)", 0, 2, OUTSIDE, (x, n) -> x.book(0, 1, n));
        Edge.taken("book(7, n, 2)", 1, 99, (x, n) -> x.book(7, n, 2));
        Edge.taken("book(9999, 99, n)", 0, 2, (x, n) -> x.book(9999, 99, n));
    }

    private static void promise30LeastAndGreatest() {
        PlumbCreeds x = new PlumbCreeds();
        Due.is("image(0)", x.image(0), 1);
        Due.is("image(1) was not kept", x.restore(1), STATE);
        PlumbCreeds y = new PlumbCreeds();
        Due.is("image(1)", y.image(1), 1);
        Due.is("image(0) was not kept", y.restore(0), STATE);
        Due.is("image(1) again", y.image(1), 1);
        Due.is("restore(1)", y.restore(1), 1);
        Due.is("image(0)", y.image(0), 1);
        Due.is("restore(0)", y.restore(0), 1);
    }

    /** All that a call can change but the PAD. */
    private static void changeAll(PlumbCreeds x) {
        x.creed(0, 8);
        x.bear(0);
        x.one(6, 2, 3);
        x.leave(1);
        x.kin(0, 1, false);
        x.kin(3, 4, true);
        x.stair(0, 5, 6, 7);
        x.stair(7, 5, 6, 7);
        x.seen(0, 1);
        x.forget();
        x.seen(5, 0);
        Due.carryOut(x, "G0G7.*", 4);
    }

    private static void promise30AllButThePad() {
        PlumbCreeds x = Edge.rich();
        PlumbCreeds twin = Edge.rich();
        x.image(0);
        twin.image(0);
        changeAll(x);
        Due.write(x, "*B");
        Due.is("restore(0)", x.restore(0), 1);
        Due.is("the PAD is not kept", x.told(0), 2);
        Due.is("its signs neither", x.fault(), 2);
        Due.write(twin, "*B");
        Edge.alike("restore(0)", x, twin);
    }

    private static void promise30OfNothing() {
        PlumbCreeds x = new PlumbCreeds();
        x.image(0);
        x.image(1);
        PlumbCreeds y = new PlumbCreeds();
        y.image(0);
        y.image(1);
        changeAll(y);
        Due.is("restore(1) of a new object", y.restore(1), 1);
        Edge.alike("restore(1) of a new object", y, x);
    }

    private static void promise30Refused() {
        Edge.refused("image(n)", 0, 1, OUTSIDE, (x, n) -> x.image(n));
    }

    private static void promise31NotKept() {
        for (int image = 0; image < 2; image++) {
            PlumbCreeds x = Due.three();
            x.image(1 - image);
            x.bear(9);
            Due.is("restore(" + image + ")", x.restore(image), STATE);
            PlumbCreeds twin = Due.three();
            twin.image(1 - image);
            twin.bear(9);
            Edge.alike("restore(" + image + ") that was not kept", x, twin);
        }
    }

    private static void promise31Twice() {
        PlumbCreeds x = Edge.rich();
        Due.is("restore(0)", x.restore(0), 1);
        Due.is("told(2)", x.told(2), 0);
        changeAll(x);
        Due.is("restore(0) again", x.restore(0), 1);
        Due.is("told(2) again", x.told(2), 0);
        Due.is("told(1) again", x.told(1), 23);
        Due.is("restore(1)", x.restore(1), 1);
        Due.is("told(2) of the other", x.told(2), 9);
        Due.is("restore(0) behind it", x.restore(0), 1);
        Due.is("told(2) behind it", x.told(2), 0);
    }

    private static void promise31EachPart() {
        PlumbCreeds x = Edge.rich();
        changeAll(x);
        x.restore(1);
        int[] asked = {1, 2, 3, 4, 5, 6, 10, 11, 12, 20, 41, 61, 100, 101, 140, 200, 201, 230, 231, 270, 300, 303, 307, 311};
        int[] due = {23, 9, 4, 1, 1, 2049, 7, 11, 13, 0, 4, 9, 0, 8, OUTSIDE, 7, 0, 11, 1, OUTSIDE, 110, OUTSIDE, OUTSIDE, 8901};
        for (int i = 0; i < asked.length; i++) {
            Due.is("told(" + asked[i] + ")", x.told(asked[i]), due[i]);
        }
        Due.is("downs are as they were", x.downs(-1), 11);
        Due.is("kin are as they were", x.kin(0, 1, true), 3);
        Due.is("and others are not", x.kin(3, 4, false), 3);
    }

    private static void promise31FullPad() {
        PlumbCreeds x = Due.three();
        x.image(0);
        Due.write(x, ".".repeat(60));
        x.restore(0);
        Due.is("the full PAD stays", x.told(0), 60);
        Due.is("it is full", x.say('.'), FULL);
        Due.is("done()", x.done(), 60);
        x.image(1);
        x.restore(0);
        Due.is("the year is as it was", x.told(4), 0);
        Due.is("the PAD is empty as it is now", x.told(0), 0);
        x.restore(1);
        Due.is("the year of the other", x.told(4), 60);
    }

    private static void promise31Refused() {
        Edge.refused("restore(n)", 0, 1, OUTSIDE, (x, n) -> x.restore(n));
        for (int n : new int[] {-1, 2, 31, 32, 33, Integer.MIN_VALUE, Integer.MAX_VALUE}) {
            Due.is("restore(" + n + "), nothing kept", new PlumbCreeds().restore(n), OUTSIDE);
        }
    }

    private static int toldAll(PlumbCreeds x, int from, int below) {
        int taken = 0;
        for (int what = from; what < below; what++) {
            taken += x.told(what) == OUTSIDE ? 0 : 1;
        }
        return taken;
    }

    private static void promise32Empty() {
        PlumbCreeds x = new PlumbCreeds();
        Due.is("below 0", toldAll(x, -50, 0), 0);
        Due.is("0 to 6", toldAll(x, 0, 7), 7);
        Due.is("7 to 9", toldAll(x, 7, 10), 0);
        Due.is("10 to 12", toldAll(x, 10, 13), 3);
        Due.is("from 13 on", toldAll(x, 13, 340), 0);
    }

    private static void promise32All() {
        PlumbCreeds x = new PlumbCreeds();
        for (int one = 0; one < 7; one++) {
            x.one(one, 2, 8);
        }
        for (int stair = 0; stair < 12; stair++) {
            x.stair(stair, 9, 8, 9);
        }
        Due.carryOut(x, "A0B1C2D3E4F5G6A7", 8);
        Due.is("told(1)", x.told(1), 127);
        Due.is("told(2)", x.told(2), 255);
        Due.is("told(6)", x.told(6), 4095);
        int taken = 0;
        for (int what : Edge.TOLD) {
            taken += x.told(what) == OUTSIDE ? 0 : 1;
        }
        Due.is("all that can be told", taken, Edge.TOLD.length);
        Due.is("and no more", toldAll(x, -1, 330), Edge.TOLD.length);
        Due.is("the last one's doubt", x.told(141), 8);
        Due.is("the last wall's creed", x.told(271), 2);
        Due.is("the last stair", x.told(311), 9819);
    }

    private static void promise32StandsNoMore() {
        PlumbCreeds x = Due.three();
        Due.carryOut(x, "A0B1C7", 3);
        x.bear(0);
        Due.carryOut(x, "*", 1);
        Due.is("told(2)", x.told(2), 2);
        Due.is("told(200)", x.told(200), OUTSIDE);
        Due.is("told(201)", x.told(201), OUTSIDE);
        Due.is("told(210)", x.told(210), 10);
        Due.is("told(271)", x.told(271), OUTSIDE);
        x.leave(2);
        Due.is("told(60)", x.told(60), OUTSIDE);
        Due.is("told(61)", x.told(61), OUTSIDE);
    }

    private static void promise32Refused() {
        int[] numbers = {-1, 7, 8, 9, 13, 19, 22, 39, 42, 80, 81, 120, 141, 160, 161, 180, 199, 202, 209, 210, 240, 272, 279,
            280, 281, 290, 299, 301, 310, 312, 331, 332, 1000, 1 << 20, -20, -200, -300, Integer.MIN_VALUE,
            Integer.MIN_VALUE + 300, Integer.MAX_VALUE};
        for (int number : numbers) {
            Edge.refusedAt("told(n)", number, OUTSIDE, (x, n) -> x.told(n));
        }
    }

    private static void questionsDoNothing() {
        Edge.changesNothing("questions of what he holds, kin, towers", x -> {
            for (int what = 0; what < 2; what++) {
                x.downs(what - 1);
                x.next(what);
                x.settle(what, 60);
                x.again(what);
                x.climb(8, 8, 9, 1, what, 0);
                x.book(77, 99, what);
                x.told(what);
            }
        });
    }
}
