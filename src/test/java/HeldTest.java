/** Promises 22 to 32: sights, kin, towers, year-books, images, what is told. */
public final class HeldTest {
    public static void main(String[] args) {
        testPromise22Seen();
        testPromise23Forget();
        testPromise24Downs();
        testPromise25Next();
        testPromise26Settle();
        testPromise27Again();
        testPromise28Climb();
        testPromise28Refused();
        testPromise29Book();
        testPromise30Image();
        testPromise31Restore();
        testPromise32Told();
        Due.end("HeldTest");
    }

    private static void testPromise22Seen() {
        PlumbCreeds x = new PlumbCreeds();
        Due.is("seen(10, 0)", x.seen(10, 0), PlumbCreeds.OUTSIDE);
        Due.is("seen(-10, 0)", x.seen(-10, 0), PlumbCreeds.OUTSIDE);
        Due.is("seen(0, 3)", x.seen(0, 3), PlumbCreeds.OUTSIDE);
        Due.is("seen(0, -1)", x.seen(0, -1), PlumbCreeds.OUTSIDE);
        for (int count = 1; count <= 8; count++) {
            Due.is("seen(9, 0)", x.seen(9, 0), count);
        }
        Due.is("downs(-1)", x.downs(-1), 18);
        Due.is("seen, the ninth", x.seen(0, 1), PlumbCreeds.FULL);
        Due.is("seen, the ninth, outside", x.seen(0, 3), PlumbCreeds.OUTSIDE);
        Due.is("downs(-1) behind FULL", x.downs(-1), 18);
        Due.is("told(5)", x.told(5), 8);
    }

    private static void testPromise23Forget() {
        PlumbCreeds x = new PlumbCreeds();
        Due.is("forget() of nothing", x.forget(), 0);
        x.seen(-9, 0);
        x.seen(3, 2);
        Due.is("downs(-1)", x.downs(-1), 0);
        Due.is("forget()", x.forget(), 2);
        Due.is("told(5)", x.told(5), 0);
        Due.is("downs(-1) behind forget()", x.downs(-1), 19);
        Due.is("seen(0, 1)", x.seen(0, 1), 1);
    }

    private static void testPromise24Downs() {
        PlumbCreeds x = new PlumbCreeds();
        Due.is("downs(0), all", x.downs(0), 1);
        Due.is("downs(18), all", x.downs(18), 19);
        Due.is("downs(19), all", x.downs(19), PlumbCreeds.NONE);
        x.seen(-3, 2);
        x.seen(2, 0);
        Due.is("downs(-1)", x.downs(-1), 4);
        int[] due = {8, 9, 10, 11, PlumbCreeds.NONE};
        for (int i = 0; i < due.length; i++) {
            Due.is("downs(" + i + ")", x.downs(i), due[i]);
        }
        Due.is("downs(-2)", x.downs(-2), PlumbCreeds.NONE);
        Due.is("downs(least int)", x.downs(Integer.MIN_VALUE), PlumbCreeds.NONE);
        x.seen(0, 1);
        Due.is("downs(-1), one", x.downs(-1), 1);
        Due.is("downs(0), one", x.downs(0), 10);
        x.forget();
        x.seen(-9, 1);
        Due.is("downs(0), the least", x.downs(0), 1);
        x.forget();
        x.seen(9, 1);
        Due.is("downs(0), the greatest", x.downs(0), 19);
    }

    private static void testPromise25Next() {
        PlumbCreeds x = new PlumbCreeds();
        asked(x, 10, 9);
        x.seen(-6, 0);
        asked(x, 2, 1);
        x.seen(-9, 2);
        asked(x, 2, 1);
        x.seen(-8, 1);
        asked(x, 1, 1);
        x.seen(-8, 0);
        asked(x, PlumbCreeds.NONE, PlumbCreeds.NONE);
        Due.is("next(2)", x.next(2), PlumbCreeds.OUTSIDE);
        Due.is("next(-1)", x.next(-1), PlumbCreeds.OUTSIDE);
        x.forget();
        x.seen(5, 2);
        asked(x, 17, 2);
    }

    private static void asked(PlumbCreeds x, int lean, int left) {
        Due.is("next(0)", x.next(0), lean);
        Due.is("next(1)", x.next(1), left);
    }

    private static void testPromise26Settle() {
        PlumbCreeds x = Due.three();
        Due.is("settle(0, 0)", x.settle(0, 0), 0);
        Due.is("settle(2, 60), no kin", x.settle(2, 60), 2);
        x.one(3, 2, 0);
        x.kin(3, 0, true);
        x.kin(3, 1, true);
        Due.is("a tie without his own: the least", x.settle(3, 1), 0);
        x.kin(3, 2, true);
        Due.is("a tie with his own: his own", x.settle(3, 1), 2);
        x.one(4, 1, 0);
        x.kin(4, 3, true);
        Due.is("most of his kin", x.settle(3, 1), 1);
        Due.is("all by what was ahead", x.settle(4, 1), 2);
        x.leave(4);
        Due.is("kin who are no more", x.settle(3, 1), 2);
        Due.is("settle(4, 61)", x.settle(4, 61), PlumbCreeds.UNKNOWN);
        Due.is("settle(7, 0)", x.settle(7, 0), PlumbCreeds.UNKNOWN);
        Due.is("settle(-1, 0)", x.settle(-1, 0), PlumbCreeds.UNKNOWN);
        Due.is("settle(0, 61)", x.settle(0, 61), PlumbCreeds.OUTSIDE);
        Due.is("settle(0, -1)", x.settle(0, -1), PlumbCreeds.OUTSIDE);
        Due.is("told(80) as it was", x.told(80), 2);
        PlumbCreeds y = Due.three();
        y.kin(0, 2, true);
        Due.is("two in turn, 59", y.settle(0, 59), 2);
        Due.is("two in turn, 60", y.settle(0, 60), 0);
    }

    private static void testPromise27Again() {
        PlumbCreeds x = new PlumbCreeds();
        again(x, 1, 1);
        x.one(0, 0, 0);
        x.one(1, 1, 0);
        again(x, 1, 1);
        x.kin(0, 1, true);
        again(x, 2, 2);
        x.kin(1, 2, true);
        x.one(2, 1, 0);
        again(x, 2, 1);
        x.one(2, 2, 0);
        again(x, 3, 2);
        Due.is("again(-1)", x.again(-1), PlumbCreeds.OUTSIDE);
        Due.is("again(2)", x.again(2), PlumbCreeds.OUTSIDE);
        for (int one = 0; one < 7; one++) {
            x.one(one, one == 6 ? 1 : 0, 0);
            if (one > 0) {
                x.kin(one - 1, one, true);
            }
        }
        again(x, 2, 1);
        Due.is("the end of a row gives in", x.settle(6, 60), 0);
        PlumbCreeds y = Due.three();
        y.one(3, 2, 0);
        y.one(5, 0, 0);
        y.kin(1, 3, true);
        y.kin(3, 5, true);
        y.kin(1, 5, true);
        again(y, 3, 1);
        Due.is("of three, the least of both others: B", y.settle(1, 1), 0);
    }

    private static void again(PlumbCreeds x, int year, int between) {
        Due.is("again(0)", x.again(0), year);
        Due.is("again(1)", x.again(1), between);
    }

    private static void testPromise28Climb() {
        PlumbCreeds x = new PlumbCreeds();
        climbed(x, new int[] {8, 1, 1, 1}, 81, 10, 1);
        climbed(x, new int[] {9, 1, 1, 1}, 9, 1, 0);
        climbed(x, new int[] {0, 2, 9, 5}, 9, 2, 1);
        climbed(x, new int[] {0, 0, 9, 5}, 0, 1, 0);
        climbed(x, new int[] {99, 8, 9, 0}, 171, 1, 1);
        climbed(x, new int[] {99, 8, 9, 10}, 99, 1, 0);
        climbed(x, new int[] {0, 8, 9, 10}, 0, 1, 0);
        climbed(x, new int[] {20, 8, 3, 1}, 21141, 1000, 1);
        climbed(x, new int[] {1, 2, 1, 4}, 6, 5, 1);
        climbed(x, new int[] {0, 8, 1, 9}, 1, 10, 1);
        climbed(x, new int[] {25, 8, 5, 1}, 59049, 2000, 1);
        Due.is("climb(7, 0, 9, 3, 1, 1)", x.climb(7, 0, 9, 3, 1, 1), 0);
        Due.is("climb(8, 1, 1, 1, 1, 1)", x.climb(8, 1, 1, 1, 1, 1), 1);
    }

    private static void climbed(PlumbCreeds x, int[] by, long upper, long lower, int first) {
        String call = "climb(" + by[0] + ", " + by[1] + ", " + by[2] + ", " + by[3] + ", ";
        Due.is(call + "0, 0)", x.climb(by[0], by[1], by[2], by[3], 0, 0), upper);
        Due.is(call + "0, 1)", x.climb(by[0], by[1], by[2], by[3], 0, 1), lower);
        Due.is(call + "1, 0)", x.climb(by[0], by[1], by[2], by[3], 1, 0), first);
        Due.is(call + "1, 1)", x.climb(by[0], by[1], by[2], by[3], 1, 1), first);
    }

    private static void testPromise28Refused() {
        PlumbCreeds x = new PlumbCreeds();
        int[] least = {0, 0, 1, 0, 0, 0};
        int[] most = {99, 8, 9, 10, 1, 1};
        for (int i = 0; i < 6; i++) {
            refused(x, i, least[i] - 1);
            refused(x, i, most[i] + 1);
            refused(x, i, Integer.MIN_VALUE);
            refused(x, i, Integer.MAX_VALUE);
        }
    }

    private static void refused(PlumbCreeds x, int place, int number) {
        int[] by = {50, 4, 5, 5, 0, 0};
        by[place] = number;
        Due.is("climb with " + number + " at " + place, x.climb(by[0], by[1], by[2], by[3], by[4], by[5]),
                PlumbCreeds.LOST + PlumbCreeds.OUTSIDE);
    }

    private static void testPromise29Book() {
        PlumbCreeds x = Due.three();
        booked(x, 0, 1, 1, 0, 8);
        booked(x, 77, 99, 7, 6, 8);
        booked(x, 5, 40, 3, 0, 8);
        Due.is("nothing is done in fact", x.told(2), 0);
        Due.is("book(-1, 1, 0)", x.book(-1, 1, 0), PlumbCreeds.OUTSIDE);
        Due.is("book(10000, 1, 0)", x.book(10000, 1, 0), PlumbCreeds.OUTSIDE);
        Due.is("book(0, 0, 0)", x.book(0, 0, 0), PlumbCreeds.OUTSIDE);
        Due.is("book(0, 100, 0)", x.book(0, 100, 0), PlumbCreeds.OUTSIDE);
        Due.is("book(0, 1, -1)", x.book(0, 1, -1), PlumbCreeds.OUTSIDE);
        Due.is("book(0, 1, 3)", x.book(0, 1, 3), PlumbCreeds.OUTSIDE);
        x.leave(2);
        Due.is("who is no more does not doubt", x.book(0, 1, 2), 0);
        booked(new PlumbCreeds(), 9999, 99, 0, 0, 0);
        PlumbCreeds y = new PlumbCreeds();
        for (int one = 1; one < 7; one++) {
            y.one(one, 0, 9);
        }
        booked(y, 0, 1, 0, 0, 54);
    }

    private static void booked(PlumbCreeds x, int seed, int m, int walls, int falls, int doubt) {
        Due.is("book(" + seed + ", " + m + ", 0)", x.book(seed, m, 0), walls);
        Due.is("book(" + seed + ", " + m + ", 1)", x.book(seed, m, 1), falls);
        Due.is("book(" + seed + ", " + m + ", 2)", x.book(seed, m, 2), doubt);
    }

    private static void testPromise30Image() {
        PlumbCreeds x = Due.three();
        Due.is("image(-1)", x.image(-1), PlumbCreeds.OUTSIDE);
        Due.is("image(2)", x.image(2), PlumbCreeds.OUTSIDE);
        Due.is("image(1)", x.image(1), 1);
        Due.is("restore(0) of another", x.restore(0), PlumbCreeds.STATE);
        Due.is("leave(0)", x.leave(0), 2);
        Due.is("image(0)", x.image(0), 1);
        Due.is("restore(1)", x.restore(1), 1);
        Due.is("told(1), the one", x.told(1), 7);
        Due.is("restore(0)", x.restore(0), 1);
        Due.is("told(1), the other", x.told(1), 6);
        Due.is("image(1) anew", x.image(1), 1);
        Due.is("leave(1)", x.leave(1), 1);
        Due.is("restore(1) anew", x.restore(1), 1);
        Due.is("told(1), anew", x.told(1), 6);
    }

    private static void testPromise31Restore() {
        PlumbCreeds x = Due.three();
        Due.is("restore(2)", x.restore(2), PlumbCreeds.OUTSIDE);
        Due.is("restore(-1)", x.restore(-1), PlumbCreeds.OUTSIDE);
        Due.is("restore(0)", x.restore(0), PlumbCreeds.STATE);
        x.creed(1, 8);
        x.bear(11);
        x.kin(0, 2, true);
        x.stair(3, 2, 7, -4);
        x.seen(4, 2);
        Due.carryOut(x, "B5..", 3);
        Due.write(x, "A0");
        x.image(0);
        changeAll(x);
        Due.is("restore(0)", x.restore(0), 1);
        Due.is("the pad is not kept", x.told(0), 4);
        int[] asked = {1, 2, 3, 4, 5, 6, 11, 20, 21, 250, 251, 303};
        int[] due = {7, 32, 11, 2, 1, 8, 18, 0, 0, 18, 1, 2706};
        for (int i = 0; i < asked.length; i++) {
            Due.is("told(" + asked[i] + ")", x.told(asked[i]), due[i]);
        }
        Due.is("downs(-1)", x.downs(-1), 5);
        Due.is("kin are as they were", x.settle(0, 1), 2);
        x.image(1);
        Due.is("an image stays", x.restore(0), 1);
    }

    private static void changeAll(PlumbCreeds x) {
        x.creed(1, -1);
        x.bear(4);
        x.kin(0, 2, false);
        x.kin(0, 1, true);
        x.stair(3, 1, 9, 4);
        x.stair(4, 1, 9, 4);
        x.seen(8, 1);
        Due.carryOut(x, "B5C3.AyAx", 5);
        x.one(0, 1, 6);
        x.leave(2);
        Due.write(x, "*B.A");
    }

    private static void testPromise32Told() {
        PlumbCreeds x = Due.three();
        x.one(6, 1, 9);
        x.stair(11, 8, 7, -9);
        x.seen(0, 2);
        Due.carryOut(x, "A0C7.", 3);
        Due.write(x, "**");
        int[] asked = {0, 1, 2, 3, 4, 5, 6, 10, 11, 12, 20, 21, 40, 41, 60, 61, 140, 141, 200, 201, 270, 271, 311};
        int[] due = {2, 71, 129, 3, 1, 1, 2048, 7, 10, 13, 0, 0, 1, 0, 2, 8, 1, 9, 7, 0, 13, 2, 8701};
        int at = 0;
        for (int what = -3; what < 400; what++) {
            boolean isAsked = at < asked.length && asked[at] == what;
            Due.is("told(" + what + ")", x.told(what), isAsked ? due[at] : PlumbCreeds.OUTSIDE);
            at += isAsked ? 1 : 0;
        }
        Due.is("told(least int)", x.told(Integer.MIN_VALUE), PlumbCreeds.OUTSIDE);
        Due.is("told(greatest int)", x.told(Integer.MAX_VALUE), PlumbCreeds.OUTSIDE);
    }
}
