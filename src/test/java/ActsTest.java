/** Promises 37 to 39: act, trace, taken; the bodies of the kinds. */
public final class ActsTest {
    private static final int NOTHING = -11, CAST = -12;

    public static void main(String[] args) {
        plain();
        near();
        rare();
        late();
        surprising();
        contrary();
        told();
        wrapping();
        refusals();
        taken();
        Due.end();
    }

    /** Seven envelopes, each of the kind of its number, v = number + 2. */
    private static GuessFair fair() {
        GuessFair x = new GuessFair();
        for (int kind = 0; kind < 7; kind++) {
            x.envelope(kind, kind + 2, 0, 0);
        }
        return x;
    }

    private static void acts(GuessFair x, int envelope, int act, int n, int want, int... bodies) {
        String call = "37: act(" + envelope + ", " + act + ", " + n + ")";
        Due.is(call, x.act(envelope, act, n), want);
        Due.is(call + ": count(6)", x.count(6), bodies.length);
        for (int i = 0; i < bodies.length; i++) {
            Due.is("38: " + call + ": trace(" + i + ")", x.trace(i), bodies[i]);
        }
        Due.is("38: " + call + ": behind the trace", x.trace(bodies.length), GuessFair.NONE);
        Due.is("38: " + call + ": trace(-1)", x.trace(-1), GuessFair.NONE);
    }

    private static void plain() {
        GuessFair x = fair();
        acts(x, 0, 0, 5, 5, 10);
        acts(x, 0, 1, 5, 3, 11, 10);
        acts(x, 0, 2, 5, 6, 12, 11, 10);
        x.envelope(0, 9, 0, 0);
        acts(x, 7, 0, 5, 12, 10);
        acts(x, 7, 1, -5, -7, 11, 10);
    }

    private static void near() {
        GuessFair x = fair();
        acts(x, 1, 0, 9, 10, 10);
        acts(x, 1, 1, 9, 7 ^ 6, 20, 11, 10);
        acts(x, 1, 2, 9, (7 ^ 6) * 2, 12, 20, 11, 10);
    }

    private static void rare() {
        GuessFair x = fair();
        acts(x, 2, 0, 5, 17, 30, 10);
        acts(x, 2, 1, 5, 13, 11, 30, 10);
        acts(x, 2, 2, 5, 26, 12, 11, 30, 10);
    }

    private static void late() {
        GuessFair x = fair();
        acts(x, 3, 0, 5, 8, 10);
        acts(x, 3, 1, 5, 3, 11, 10);
        // super.tells(5) is 6; pays(1) is 1 + 3 - 5.
        acts(x, 3, 2, 5, 5, 40, 12, 11, 10, 11, 10);
    }

    private static void surprising() {
        GuessFair x = fair();
        acts(x, 4, 0, 5, -9, 50, 10);
        // pays(5 + 1): -(6 + 4) - 6, by ^ 6.
        acts(x, 4, 1, 5, -16 ^ 6, 51, 20, 11, 50, 10);
        acts(x, 4, 2, 5, (-16 ^ 6) * 2, 12, 51, 20, 11, 50, 10);
    }

    private static void contrary() {
        GuessFair x = fair();
        acts(x, 5, 0, 4, 17, 30, 10);
        acts(x, 5, 1, 4, 10, 11, 30, 10);
        // tells(4 - 5): (-3 + 5 - 7) * 2.
        acts(x, 5, 2, 4, -10, 60, 12, 11, 30, 10);
    }

    private static void told() {
        GuessFair x = fair();
        acts(x, 6, 0, 5, 11 ^ 8, 71, 10);
        // super.pays(5): (11 ^ 8) - 8; super.seals(2): 8.
        acts(x, 6, 1, 5, (11 ^ 8) - 8 + 8, 70, 11, 71, 10, 10);
        // super.tells(5): pays(5) * 2; pays(1): (7 ^ 8) - 8 + 8.
        acts(x, 6, 2, 5, (11 ^ 8) * 2 + (7 ^ 8), 40, 12, 70, 11, 71, 10, 10, 70, 11, 71, 10, 10);
    }

    private static void wrapping() {
        GuessFair x = fair();
        acts(x, 3, 0, Integer.MAX_VALUE, Integer.MIN_VALUE + 2, 10);
        acts(x, 2, 0, 1 << 30, (3 << 30) + 2, 30, 10);
        acts(x, 0, 1, Integer.MIN_VALUE, Integer.MAX_VALUE - 1, 11, 10);
        acts(x, 0, 2, Integer.MIN_VALUE, -4, 12, 11, 10);
    }

    private static void refusals() {
        GuessFair x = fair();
        int[][] calls = {{7, 0}, {-1, 0}, {0, 3}, {0, -1}, {Integer.MAX_VALUE, 1}, {1, Integer.MIN_VALUE}};
        for (int[] call : calls) {
            x.act(6, 2, 1);
            acts(x, call[0], call[1], 9);
        }
        acts(x, 0, 0, 0, 0, 10);
        x.tape(0, 0, 1);
        x.pass(1);
        Due.is("38: the trace stays until the next act", x.trace(0), 10);
    }

    private static void acts(GuessFair x, int envelope, int act, int n) {
        acts(x, envelope, act, n, 0);
    }

    private static void taken() {
        GuessFair x = fair();
        int[] above = {-1, 0, 0, 0, 1, 2, 3};
        for (int n = 0; n < 7; n++) {
            for (int k = 0; k < 7; k++) {
                boolean isUnder = k == 0 || k == n || k == above[n];
                Due.is("39: taken(" + n + ", " + k + ")", x.taken(n, k), isUnder ? n : CAST);
            }
        }
        Due.is("39: taken(7, 7)", x.taken(7, 7), GuessFair.BAD);
        Due.is("39: taken(0, -1)", x.taken(0, -1), GuessFair.BAD);
        Due.is("39: taken(7, 0)", x.taken(7, 0), NOTHING);
        Due.is("39: taken(-1, 0)", x.taken(-1, 0), NOTHING);
    }
}
