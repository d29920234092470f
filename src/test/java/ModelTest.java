/** All promises: runs of up to 512 calls, drawn by a fixed rule, answered by the class and by the model alike. */
public final class ModelTest {
    private static final int RUNS = 600;
    /** Behind as many calls nothing is promised, so the last drawn ones and what is told at the end fit below. */
    private static final int CALLS = 512;
    private static final int MOST_OF_ONE_DRAW = 31;
    private static final int[] STRANGE = {Integer.MIN_VALUE, Integer.MIN_VALUE + 1, -1000000, -200, -11, -10, -2, -1,
        8, 10, 12, 19, 31, 32, 41, 61, 63, 64, 100, 127, 128, 255, 10000, 65536, 1 << 30, Integer.MAX_VALUE};
    private static final String[] KINDS = {"creed", "bear", "one", "one", "one", "leave", "kin", "kin", "stair",
        "stair", "years", "years", "years", "years", "noise", "wipe", "fault", "judge", "done", "done", "behind", "wall",
        "fell", "bears", "all", "wedges", "wedges", "meet", "ways", "ways", "reach", "seen", "forget", "downs", "next",
        "settle", "settle", "again", "climb", "book", "book", "image", "restore", "told", "told"};

    private static long drawn = 1;

    private PlumbCreeds x = new PlumbCreeds();
    private Model model = new Model();
    private int calls = 0;

    public static void main(String[] args) {
        for (int run = 0; run < RUNS; run++) {
            new ModelTest().run();
        }
        Due.end("ModelTest");
    }

    private void run() {
        while (calls < CALLS - MOST_OF_ONE_DRAW - Edge.TOLD.length) {
            String kind = KINDS[draw(KINDS.length)];
            try {
                ask(kind);
            } catch (RuntimeException machine) {
                Due.isTrue(kind + " threw " + machine, false);
            }
        }
        for (int what : Edge.TOLD) {
            same("at the end told(" + what + ")", x.told(what), model.told(what));
        }
        Due.isTrue("calls of one object: " + calls, calls <= CALLS);
    }

    private static int draw(int many) {
        drawn = drawn * 6364136223846793005L + 1442695040888963407L;
        return (int) ((drawn >>> 33) % many);
    }

    /** From least to most as a rule, and now and then one beside them or a strange one. */
    private static int number(int least, int most) {
        int luck = draw(60);
        if (luck == 0) {
            return STRANGE[draw(STRANGE.length)];
        }
        if (luck < 3) {
            return luck == 1 ? least - 1 : most + 1;
        }
        return least + draw(most - least + 1);
    }

    private void same(String call, long got, long want) {
        calls++;
        Due.is("model: " + call, got, want);
    }

    private void ask(String kind) {
        switch (kind) {
            case "years":
                writeYears();
                break;
            case "noise":
                say(draw(4) == 0 ? number(33, 126) : "AGH^@.*07Z8xyz{w".charAt(draw(16)));
                break;
            case "kin":
                boolean is = draw(3) > 0;
                int one = number(0, 6);
                int other = number(0, 6);
                same("kin " + one + " " + other + " " + is, x.kin(one, other, is), model.kin(one, other, is));
                break;
            default:
                if (!askState(kind) && !askYears(kind) && !askLeans(kind) && !askHeld(kind)) {
                    throw new IllegalStateException("no such kind: " + kind);
                }
        }
    }

    private void say(int sign) {
        same("say(" + sign + ")", x.say(sign), model.say(sign));
    }

    private void writeYears() {
        same("wipe()", x.wipe(), model.wipe());
        int acts = draw(9);
        for (int act = 0; act < acts; act++) {
            int luck = draw(16);
            String him = "" + (char) ('A' + draw(7));
            String text = luck == 0 ? "*" : luck == 1 ? "." : luck < 4 ? him + (char) ('x' + draw(3))
                    : luck < 8 ? him + draw(8) : him + "^" + draw(8);
            for (int i = 0; i < text.length(); i++) {
                say(text.charAt(i));
            }
        }
        same("judge(0)", x.judge(0), model.judge(0));
        same("judge(1)", x.judge(1), model.judge(1));
        for (int what = 0; what < 4; what++) {
            same("fell(" + what + ")", x.fell(what), model.fell(what));
        }
    }

    private boolean askState(String kind) {
        int a = number(0, 6);
        int b;
        int c;
        int d;
        switch (kind) {
            case "creed":
                a = number(0, 2);
                b = number(-9, 9);
                same("creed " + a + " " + b, x.creed(a, b), model.creed(a, b));
                return true;
            case "bear":
                a = draw(3) == 0 ? number(0, 18) : number(2, 5);
                same("bear " + a, x.bear(a), model.bear(a));
                return true;
            case "one":
                b = number(0, 2);
                c = number(0, 9);
                same("one " + a + " " + b + " " + c, x.one(a, b, c), model.one(a, b, c));
                return true;
            case "leave":
                same("leave " + a, x.leave(a), model.leave(a));
                return true;
            case "stair":
                a = number(0, 11);
                b = number(0, 9);
                c = number(0, 9);
                d = number(-9, 9);
                same("stair " + a + " " + b + " " + c + " " + d, x.stair(a, b, c, d), model.stair(a, b, c, d));
                return true;
            default:
                return false;
        }
    }

    private boolean askYears(String kind) {
        int a = number(0, 6);
        int b = number(0, 1);
        switch (kind) {
            case "wipe":
                same("wipe", x.wipe(), model.wipe());
                return true;
            case "fault":
                same("fault", x.fault(), model.fault());
                return true;
            case "judge":
                same("judge " + b, x.judge(b), model.judge(b));
                return true;
            case "done":
                same("done", x.done(), model.done());
                return true;
            case "behind":
                same("behind " + a + " " + b, x.behind(a, b), model.behind(a, b));
                return true;
            case "wall":
                a = number(0, 7);
                same("wall " + a + " " + b, x.wall(a, b), model.wall(a, b));
                return true;
            case "fell":
                a = number(0, 3);
                same("fell " + a, x.fell(a), model.fell(a));
                return true;
            case "bears":
                same("bears " + a, x.bears(a), model.bears(a));
                return true;
            default:
                return false;
        }
    }

    private boolean askLeans(String kind) {
        int a = number(0, 6);
        int what = number(0, 1);
        // Half of the sets are of those who are there, since most sets else are refused.
        int set = draw(2) == 0 ? number(0, 127) : draw(128) & model.told(1);
        int b;
        int c;
        switch (kind) {
            case "all":
                same("all " + set + " " + what, x.all(set, what), model.all(set, what));
                return true;
            case "wedges":
                a = number(0, 7);
                same("wedges " + a + " " + set + " " + what, x.wedges(a, set, what), model.wedges(a, set, what));
                return true;
            case "meet":
                b = number(0, 6);
                c = number(0, 40);
                same("meet " + a + " " + b + " " + c + " " + what, x.meet(a, b, c, what), model.meet(a, b, c, what));
                return true;
            case "ways":
                b = number(0, 9);
                c = number(0, 9);
                same("ways " + a + " " + b + " " + c + " " + what, x.ways(a, b, c, what), model.ways(a, b, c, what));
                return true;
            case "reach":
                b = number(0, 9);
                same("reach " + a + " " + b, x.reach(a, b), model.reach(a, b));
                return true;
            default:
                return false;
        }
    }

    private boolean askHeld(String kind) {
        int a = number(0, 6);
        int b = number(0, 60);
        int what = number(0, 1);
        switch (kind) {
            case "seen":
                a = number(-9, 9);
                b = number(0, 2);
                same("seen " + a + " " + b, x.seen(a, b), model.seen(a, b));
                return true;
            case "forget":
                same("forget", x.forget(), model.forget());
                return true;
            case "downs":
                a = number(-1, 18);
                same("downs " + a, x.downs(a), model.downs(a));
                return true;
            case "next":
                same("next " + what, x.next(what), model.next(what));
                return true;
            case "settle":
                same("settle " + a + " " + b, x.settle(a, b), model.settle(a, b));
                return true;
            case "again":
                same("again " + what, x.again(what), model.again(what));
                return true;
            case "image":
                same("image " + what, x.image(what), model.image(what));
                return true;
            case "restore":
                same("restore " + what, x.restore(what), model.restore(what));
                return true;
            default:
                return askNumbers(kind);
        }
    }

    private boolean askNumbers(String kind) {
        int what = number(0, 2);
        switch (kind) {
            case "climb":
                int v = number(0, 99);
                int m = number(0, 8);
                int w = number(1, 9);
                int t = draw(2) == 0 ? number(0, 10) : number(0, 2);
                int which = number(0, 1);
                int part = number(0, 1);
                same("climb " + v + " " + m + " " + w + " " + t + " " + which + " " + part,
                        x.climb(v, m, w, t, which, part), model.climb(v, m, w, t, which, part));
                return true;
            case "book":
                int seed = number(0, 9999);
                int draws = number(1, 99);
                same("book " + seed + " " + draws + " " + what, x.book(seed, draws, what), model.book(seed, draws, what));
                return true;
            case "told":
                int asked = number(0, 320);
                same("told " + asked, x.told(asked), model.told(asked));
                return true;
            default:
                return false;
        }
    }
}
