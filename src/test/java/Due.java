/** What the tests share: each answer that is not the one that is due is printed, and counted. */
final class Due {
    private static int asked = 0;
    private static int wrong = 0;

    private Due() {
    }

    static void is(String call, long got, long want) {
        asked++;
        if (got != want) {
            wrong++;
            System.out.println(call + " answered " + got + ", due is " + want);
        }
    }

    static void isText(String call, String got, String want) {
        asked++;
        if (!got.equals(want)) {
            wrong++;
            System.out.println(call + ":\n  is  " + got + "\n  due " + want);
        }
    }

    static void isTrue(String claim, boolean holds) {
        is(claim, holds ? 1 : 0, 1);
    }

    /** Puts a text on the PAD in the place of what was there. */
    static void write(PlumbCreeds x, String text) {
        x.wipe();
        for (int i = 0; i < text.length(); i++) {
            is("say(" + text.charAt(i) + ") in " + text, x.say(text.charAt(i)), i + 1);
        }
    }

    static void carryOut(PlumbCreeds x, String text, int acts) {
        write(x, text);
        is("done() of " + text, x.done(), acts);
    }

    /** A holds x, B holds y, C holds z; A and B without DOUBT, C with 8. */
    static PlumbCreeds three() {
        PlumbCreeds x = new PlumbCreeds();
        x.one(0, 0, 0);
        x.one(1, 1, 0);
        x.one(2, 2, 8);
        return x;
    }

    static void end(String test) {
        System.out.println(test + ": " + asked + " answers asked, " + wrong + " not as due");
        if (wrong != 0 || asked == 0) {
            System.exit(1);
        }
    }
}
