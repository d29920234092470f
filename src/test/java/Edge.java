import java.util.function.Consumer;

/** What the tests of boundary cases share: an object in which much stands, and a portrait of all that one holds. */
final class Edge {
    static final long LOST = PlumbCreeds.LOST + PlumbCreeds.OUTSIDE;

    /** All that told() can be asked for. */
    static final int[] TOLD = {0, 1, 2, 3, 4, 5, 6, 10, 11, 12,
        20, 21, 40, 41, 60, 61, 80, 81, 100, 101, 120, 121, 140, 141,
        200, 201, 210, 211, 220, 221, 230, 231, 240, 241, 250, 251, 260, 261, 270, 271,
        300, 301, 302, 303, 304, 305, 306, 307, 308, 309, 310, 311};

    /** A call of which one argument is asked. */
    interface Call {
        long with(PlumbCreeds x, int number);
    }

    private Edge() {
    }

    /** A, B, C and E are there, walls 0 and 3 stand, both images are kept, and the PAD holds YEARS that can be done. */
    static PlumbCreeds rich() {
        PlumbCreeds x = new PlumbCreeds();
        x.creed(1, 1);
        x.bear(4);
        x.one(0, 0, 0);
        x.one(1, 1, 4);
        x.one(2, 2, 9);
        x.one(4, 0, 8);
        x.kin(0, 1, true);
        x.kin(1, 2, true);
        x.kin(5, 6, true);
        x.stair(0, 0, 1, 0);
        x.stair(11, 8, 9, -9);
        x.image(0);
        x.seen(-2, 2);
        Due.carryOut(x, "A0B3.", 3);
        x.image(1);
        x.stair(3, 1, 2, 5);
        x.seen(6, 0);
        x.kin(0, 4, true);
        x.bear(3);
        Due.write(x, "A5B^0Ey.");
        return x;
    }

    /** One below, one above, the least and the greatest int are refused alike, and nothing changes by it. */
    static void refused(String call, int least, int most, long refusal, Call asked) {
        int[] numbers = {least - 1, most + 1, Integer.MIN_VALUE, Integer.MAX_VALUE};
        for (int number : numbers) {
            refusedAt(call, number, refusal, asked);
        }
    }

    static void refusedAt(String call, int number, long refusal, Call asked) {
        PlumbCreeds x = rich();
        Due.is(call + ", n = " + number, asked.with(x, number), refusal);
        alike(call + ", n = " + number, x, rich());
    }

    /** From least to most nothing is refused. */
    static void taken(String call, int least, int most, Call asked) {
        for (int number = least; number <= most; number++) {
            long got = asked.with(rich(), number);
            Due.isTrue(call + ", n = " + number + ", is taken: " + got, got >= 0 || got == PlumbCreeds.NONE);
        }
    }

    /** Calls that are questions, or refused, leave the object as it was. */
    static void changesNothing(String calls, Consumer<PlumbCreeds> asked) {
        PlumbCreeds x = rich();
        asked.accept(x);
        alike(calls, x, rich());
    }

    static void alike(String call, PlumbCreeds x, PlumbCreeds twin) {
        Due.isText("behind " + call, portrait(x), portrait(twin));
    }

    /** All that the object holds, as text; asking for KIN and images changes it, so nothing is asked of it then. */
    static String portrait(PlumbCreeds x) {
        StringBuilder text = new StringBuilder();
        text.append("told").append(told(x));
        text.append(" fault ").append(x.fault()).append(" judge ").append(x.judge(0)).append(' ').append(x.judge(1));
        for (int what = 0; what < 4; what++) {
            text.append(" fell ").append(x.fell(what));
        }
        text.append(held(x)).append(" done ").append(x.done()).append(told(x));
        for (int n = 0; n < 2; n++) {
            text.append(" image ").append(x.restore(n)).append(told(x)).append(held(x));
        }
        return text.toString();
    }

    private static String told(PlumbCreeds x) {
        StringBuilder text = new StringBuilder();
        for (int what : TOLD) {
            text.append(' ').append(x.told(what));
        }
        return text.toString();
    }

    /** What is held and not told: DOWNS and KIN. */
    private static String held(PlumbCreeds x) {
        StringBuilder text = new StringBuilder(" downs");
        for (int i = -1; i < 19; i++) {
            text.append(' ').append(x.downs(i));
        }
        text.append(" kin");
        for (int one = 0; one < 7; one++) {
            for (int other = one + 1; other < 7; other++) {
                text.append(' ').append(x.kin(one, other, false));
            }
        }
        return text.toString();
    }
}
