/** Promises 37 to 40: the sentences that name a boundary case. */
final class ActBoundaries {
    private static final int LEAST = Integer.MIN_VALUE, GREATEST = Integer.MAX_VALUE;
    private static final int NOTHING = -11, CAST = -12;

    private ActBoundaries() {
    }

    static void all() {
        Sentence.each(
            ActBoundaries::wrapping, ActBoundaries::actRefusals, ActBoundaries::actChangesNoMore, ActBoundaries::bodies,
            ActBoundaries::traces, ActBoundaries::takenKinds, ActBoundaries::takenRefusals, ActBoundaries::countsAtLeast,
            ActBoundaries::countsAtMost);
    }

    /** Envelope 3 alone counts, of that kind: those ahead of it are plain. */
    private static GuessFair third(int kind, int v) {
        GuessFair x = new GuessFair();
        for (int n = 0; n < 3; n++) {
            x.envelope(0, 0, 0, 0);
        }
        x.envelope(kind, v, 0, 0);
        return x;
    }

    private static void wrapping() {
        Sentence s = Sentence.of(37, "ACTS of an ENVELOPE with x (wrapping): 0 seals, 1 pays, 2 tells");
        s.is("10, x + i: act(3, 0, GREATEST)", third(0, 0).act(3, 0, GREATEST), LEAST + 2);
        s.is("11, - v: act(3, 1, LEAST)", third(0, 9).act(3, 1, LEAST), GREATEST - 5);
        s.is("12, * 2: act(3, 2, 1 << 30)", third(0, 1).act(3, 2, 1 << 30), LEAST + 4);
        s.is("12, * 2: act(3, 2, GREATEST)", third(0, 3).act(3, 2, GREATEST), -2);
        s.is("20, ^ 6: act(3, 1, LEAST)", third(1, 4).act(3, 1, LEAST), GREATEST - 6);
        s.is("30, x * 3: act(3, 0, GREATEST)", third(2, 0).act(3, 0, GREATEST), LEAST);
        s.is("30, x * 3: act(3, 0, 1 << 30)", third(2, 0).act(3, 0, 1 << 30), -(1 << 30) + 3);
        // pays(x) is (1 << 30) - 1, twice that is GREATEST - 1; pays(1) is 4.
        s.is("40, a sum: act(3, 2, (1 << 30) - 4)", third(3, 0).act(3, 2, (1 << 30) - 4), LEAST + 2);
        s.is("50, -LEAST: act(3, 0, LEAST - 3)", third(4, 0).act(3, 0, GREATEST - 2), LEAST);
        // pays(LEAST): seals is -(LEAST + 3), which is GREATEST - 2.
        s.is("51, x + 1: act(3, 1, GREATEST)", third(4, 0).act(3, 1, GREATEST), GREATEST - 2 ^ 6);
        // tells(GREATEST - 2): x * 3 is GREATEST - 8, seals GREATEST - 5, pays GREATEST - 5, twice that -12.
        s.is("60, x - i: act(3, 2, LEAST)", third(5, 0).act(3, 2, LEAST), -12);
        // super.pays(x): GREATEST ^ 0; super.seals(2): 5.
        s.is("70, a sum: act(3, 1, GREATEST - 3)", third(6, 0).act(3, 1, GREATEST - 3), LEAST + 4);
        s.is("71, ^ v: act(3, 0, GREATEST)", third(6, 3).act(3, 0, GREATEST), LEAST + 1);
    }

    private static void actRefusals() {
        Sentence s = Sentence.of(37, "0, and no TRACE then: no such ENVELOPE, act.");
        int[][] calls = {{-1, 0}, {3, 0}, {8, 0}, {LEAST, 2}, {GREATEST, 2}, {0, -1}, {0, 3}, {0, LEAST}, {0, GREATEST}, {3, 3}};
        for (int[] c : calls) {
            GuessFair x = Sentence.someOfAll();
            String call = "act(" + c[0] + ", " + c[1] + ", 5)";
            s.is("count(6) ahead of " + call, x.count(6), 12);
            s.is(call, x.act(c[0], c[1], 5), 0).is("count(6) behind " + call, x.count(6), 0);
            for (int i = 0; i < 20; i++) {
                s.is("trace(" + i + ") behind " + call, x.trace(i), GuessFair.NONE);
            }
        }
        s.is("no envelopes: act(0, 0, 5)", new GuessFair().act(0, 0, 5), 0);
    }

    /** Of all that can be seen an act changes the trace alone: the twin does the same act. */
    private static void actChangesNoMore() {
        Sentence s = Sentence.of(37, "what is asked changes nothing");
        for (int e = 0; e < 3; e++) {
            int envelope = e;
            for (int act = 0; act < 3; act++) {
                int which = act;
                s.asks("act(" + e + ", " + act + ", 7), and then the act that was", x -> {
                    x.act(envelope, which, 7);
                    return x.act(1, 2, 5);
                });
            }
        }
    }

    /** Which body begins each act of each kind: its own, or that of the next kind above that has one. */
    private static void bodies() {
        int[][] wants = {{10, 11, 12}, {10, 20, 12}, {30, 11, 12}, {10, 11, 40}, {50, 51, 12}, {30, 11, 60}, {71, 70, 40}};
        Sentence s = Sentence.of(37, "the body of its KIND, or, if that has none, of the next KIND above that has one");
        for (int kind = 0; kind < 7; kind++) {
            GuessFair x = third(kind, 1);
            for (int act = 0; act < 3; act++) {
                x.act(3, act, 1);
                s.is("kind " + kind + ", act(3, " + act + ", 1): trace(0)", x.trace(0), wants[kind][act]);
            }
        }
        GuessFair x = third(4, 0);
        x.act(3, 1, 1);
        int[] trace = {51, 20, 11, 50, 10};
        Sentence above = Sentence.of(37, "super.seals(..): so from the KIND above the body's on").is("count(6)", x.count(6), 5);
        for (int i = 0; i < trace.length; i++) {
            above.is("kind 4, act(3, 1, 1): trace(" + i + ")", x.trace(i), trace[i]);
        }
    }

    private static void traces() {
        GuessFair x = third(6, 1);
        x.act(3, 2, 1);
        int[] longest = {40, 12, 70, 11, 71, 10, 10, 70, 11, 71, 10, 10};
        Sentence.of(38, "all that stands in a body is done from the left on").is("trace(1)", x.trace(1), 12).is("trace(7)", x.trace(7), 70);
        Sentence s = Sentence.of(38, "as they began; the first 20 are kept");
        s.is("count(6), the longest act of all", x.count(6), 12);
        for (int i = 0; i < 12; i++) {
            s.is("trace(" + i + ")", x.trace(i), longest[i]);
        }
        Sentence none = Sentence.of(38, "NONE").is("trace(12)", x.trace(12), GuessFair.NONE);
        for (int i : new int[] {-1, 12, 13, 19, 20, 21, LEAST, GREATEST}) {
            none.refuses("trace(" + i + ")", GuessFair.NONE, y -> y.trace(i));
        }
        x.act(0, 0, 1);
        s.is("trace(0), the latest act alone", x.trace(0), 10);
        none.is("trace(1), the latest act alone", x.trace(1), GuessFair.NONE);
        none.is("no act yet: trace(0)", new GuessFair().trace(0), GuessFair.NONE);
    }

    private static void takenKinds() {
        int[] above = {-1, 0, 0, 0, 1, 2, 3};
        Sentence s = Sentence.of(39, "An ENVELOPE taken for one of KIND k (0 .. 6), or one under that: its KIND.");
        Sentence cast = Sentence.of(39, "CAST");
        GuessFair x = new GuessFair();
        for (int kind = 0; kind < 7; kind++) {
            x.envelope(kind, 0, 0, 0);
            for (int k = 0; k < 7; k++) {
                boolean isUnder = k == kind || k == 0 || k == above[kind];
                (isUnder ? s : cast).is("taken(" + kind + ", " + k + ")", x.taken(kind, k), isUnder ? kind : CAST);
            }
        }
        cast.refuses("taken(0, 1)", CAST, y -> y.taken(0, 1)).refuses("taken(2, 4)", CAST, y -> y.taken(2, 4));
        Sentence.of(39, "CAST (-12): another sort or KIND;").is("taken(0, 6)", x.taken(0, 6), -12);
    }

    private static void takenRefusals() {
        Sentence bad = Sentence.of(39, "BAD: k");
        for (int k : new int[] {-1, 7, LEAST, GREATEST}) {
            bad.refuses("taken(0, " + k + ")", GuessFair.BAD, x -> x.taken(0, k));
        }
        Sentence nothing = Sentence.of(39, "NOTHING: no such ENVELOPE");
        for (int n : new int[] {-1, 3, 8, LEAST, GREATEST}) {
            nothing.refuses("taken(" + n + ", 0)", NOTHING, x -> x.taken(n, 0));
        }
        nothing.is("no envelopes: taken(0, 6)", new GuessFair().taken(0, 6), NOTHING);
        Sentence.of(39, "the first that a call's words name").refuses("taken(3, 7)", GuessFair.BAD, x -> x.taken(3, 7));
    }

    private static void countsAtLeast() {
        GuessFair x = new GuessFair();
        Sentence s = Sentence.of(40, "How many: 0 ENVELOPES, 1 WORLDS, 2 LAWS, 3 OPENED, 4 of the BOOK, 5 bytes of THE TEXT");
        for (int what = 0; what < 7; what++) {
            s.is("nothing at all: count(" + what + ")", x.count(what), 0);
        }
        Sentence bad = Sentence.of(40, "BAD");
        for (int what : new int[] {-1, 7, LEAST, GREATEST}) {
            bad.refuses("count(" + what + ")", GuessFair.BAD, y -> y.count(what));
        }
    }

    private static void countsAtMost() {
        GuessFair x = Due.fair(1, 1, 1, 1, 1, 1);
        for (int n = 0; n < 8; n++) {
            x.envelope(6, 1, 0, 0);
            x.open(0, true);
            x.book(0, 0, 0);
        }
        for (int n = 0; n < 6; n++) {
            Due.law(x, "base 1");
        }
        for (int n = 0; n < 100; n++) {
            x.feed('b');
        }
        x.act(7, 2, 1);
        int[] wants = {8, 6, 6, 8, 8, 100, 12};
        Sentence s = Sentence.of(40, "6 bodies that ran in the latest act() (all, kept or not)");
        for (int what = 0; what < 7; what++) {
            s.is("all that there may be: count(" + what + ")", x.count(what), wants[what]);
        }
    }
}
