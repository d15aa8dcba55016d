/** Counts the answers that are not as due, and ends a test with 1 if there was one. */
final class Due {
    private static int wrong = 0;

    private Due() {
    }

    static void is(String call, long got, long want) {
        if (got != want) {
            wrong++;
            System.out.println(call + " answered " + got + ", due is " + want);
        }
    }

    static void feed(GuessFair x, String text) {
        for (int n = 0; n < text.length(); n++) {
            x.feed(text.charAt(n));
        }
    }

    static int law(GuessFair x, String text) {
        feed(x, text);
        return x.law();
    }

    static void isLaw(GuessFair x, String text, int want) {
        is("law of \"" + text + "\"", law(x, text), want);
    }

    /** Each pay of an envelope, world by world. */
    static void pays(String of, GuessFair x, int envelope, int... wants) {
        for (int w = 0; w < wants.length; w++) {
            is(of + ": pay(" + envelope + ", " + w + ")", x.pay(envelope, w), wants[w]);
        }
    }

    /** A fair with worlds of these chances. */
    static GuessFair fair(int... chances) {
        GuessFair x = new GuessFair();
        for (int chance : chances) {
            x.world(chance);
        }
        return x;
    }

    static void end() {
        if (wrong != 0) {
            System.out.println(wrong + " answers are not as due");
            System.exit(1);
        }
    }
}
