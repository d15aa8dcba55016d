/** Promises 41 to 44: the sentences that name a boundary case. */
final class TapeBoundaries {
    private static final int LEAST = Integer.MIN_VALUE, GREATEST = Integer.MAX_VALUE;
    private static final int NOTHING = -11, CAST = -12, PLACE = -13, SIZE = -14;

    private TapeBoundaries() {
    }

    static void all() {
        Sentence.each(
            TapeBoundaries::tapes, TapeBoundaries::tapesOfNothing, TapeBoundaries::tapeRefusals, TapeBoundaries::items,
            TapeBoundaries::itemRefusals, TapeBoundaries::reads, TapeBoundaries::shifts, TapeBoundaries::shiftOverlaps,
            TapeBoundaries::shiftRefusals, TapeBoundaries::shiftPlaces, TapeBoundaries::shiftEnds);
    }

    private static void tapes() {
        GuessFair x = new GuessFair();
        Sentence ends = Sentence.of(41, "A TAPE becomes a row of n (0 .. 60) of a sort, all 0");
        for (int sort = 0; sort < 5; sort++) {
            ends.is("tape(5, " + sort + ", 60)", x.tape(5, sort, 60), 1);
            for (int i = 0; i < 60; i++) {
                ends.is("sort " + sort + ": read(5, " + i + ")", x.read(5, i), 0);
            }
            ends.is("sort " + sort + ": read(5, 60)", x.read(5, 60), GuessFair.NO);
            x.item(5, 0, 1);
            x.item(5, 59, 1);
        }
        x = new GuessFair();
        for (int sort = 0; sort < 5; sort++) {
            ends.is("tape(0, " + sort + ", 0)", x.tape(0, sort, 0), 1).is("read(0, 0)", x.read(0, 0), GuessFair.NO)
                .is("item(0, 0, 1)", x.item(0, 0, 1), PLACE);
        }
        Sentence six = Sentence.of(41, "TAPES 0 .. 5 hold nothing (at first)");
        for (int tape = 0; tape < 6; tape++) {
            GuessFair y = new GuessFair();
            six.is("item(" + tape + ", 0, 0)", y.item(tape, 0, 0), NOTHING).is("tape(" + tape + ", 0, 1)", y.tape(tape, 0, 1), 1);
            for (int other = 0; other < 6; other++) {
                six.is("read(" + other + ", 0) then", y.read(other, 0), other == tape ? 0 : GuessFair.NO);
            }
        }
    }

    private static void tapesOfNothing() {
        Sentence s = Sentence.of(41, "or holds nothing (sort -1: n does not matter)");
        for (int n : new int[] {0, 1, 60, 61, -1, LEAST, GREATEST}) {
            GuessFair x = new GuessFair();
            x.tape(0, 2, 3);
            s.is("tape(0, -1, " + n + ")", x.tape(0, -1, n), 1).is("read(0, 0)", x.read(0, 0), GuessFair.NO)
                .is("item(0, 0, 1)", x.item(0, 0, 1), NOTHING).is("tape(0, -1, " + n + ") again", x.tape(0, -1, n), 1);
        }
    }

    private static void tapeRefusals() {
        Sentence none = Sentence.of(41, "NONE: tape");
        for (int tape : new int[] {-1, 6, LEAST, GREATEST}) {
            none.refuses("tape(" + tape + ", 0, 1)", GuessFair.NONE, x -> x.tape(tape, 0, 1));
        }
        Sentence badSort = Sentence.of(41, "BAD: sort");
        for (int sort : new int[] {-2, 5, LEAST, GREATEST}) {
            badSort.refuses("tape(0, " + sort + ", 1)", GuessFair.BAD, x -> x.tape(0, sort, 1));
        }
        Sentence badSize = Sentence.of(41, "n above 60");
        for (int n : new int[] {61, 62, GREATEST}) {
            badSize.refuses("tape(0, 0, " + n + ")", GuessFair.BAD, x -> x.tape(0, 0, n));
        }
        Sentence size = Sentence.of(41, "SIZE.");
        for (int n : new int[] {-1, -60, LEAST}) {
            size.refuses("tape(0, 3, " + n + ")", SIZE, x -> x.tape(0, 3, n));
            size.refuses("tape(4, 0, " + n + ")", SIZE, x -> x.tape(4, 0, n));
        }
        Sentence.of(41, "SIZE (-14): a size below 0").is("tape(0, 0, -1)", new GuessFair().tape(0, 0, -1), -14);
        Sentence.of(41, "the first that a call's words name")
            .refuses("tape(6, 5, 61)", GuessFair.NONE, x -> x.tape(6, 5, 61))
            .refuses("tape(6, 0, -1)", GuessFair.NONE, x -> x.tape(6, 0, -1))
            .refuses("tape(6, -1, 0)", GuessFair.NONE, x -> x.tape(6, -1, 0))
            .refuses("tape(0, 5, -1)", GuessFair.BAD, x -> x.tape(0, 5, -1))
            .refuses("tape(0, -2, -1)", GuessFair.BAD, x -> x.tape(0, -2, -1));
    }

    private static void items() {
        long[] values = {0, 1, -1, 127, 128, -128, -129, 255, 256, 257, 32767, 32768, -32768, -32769, 65535, 65536,
            (1L << 31) - 1, 1L << 31, -(1L << 31), -(1L << 31) - 1, 1L << 32, (1L << 32) - 1, 1L << 63, (1L << 63) - 1};
        Sentence lowest = Sentence.of(42, "Item i of a TAPE becomes v (its lowest bits, as many as an item has; booleans: whether v is not 0): 1.");
        for (int sort = 0; sort < 5; sort++) {
            GuessFair x = new GuessFair();
            x.tape(0, sort, 60);
            for (long v : values) {
                long[] wants = {(byte) v, (short) v, (int) v, v, v == 0 ? 0 : 1};
                lowest.is("sort " + sort + ": item(0, 59, " + v + ")", x.item(0, 59, v), 1);
                lowest.is("sort " + sort + ": read(0, 59) of " + v, x.read(0, 59), wants[sort]);
            }
            lowest.is("sort " + sort + ": read(0, 58), others stay", x.read(0, 58), 0);
            lowest.is("sort " + sort + ": item(0, 0, 2), the first", x.item(0, 0, 2), 1);
            lowest.is("sort " + sort + ": read(0, 0)", x.read(0, 0), sort == 4 ? 1 : 2);
        }
        GuessFair x = new GuessFair();
        x.tape(0, 4, 1);
        Sentence items = Sentence.of(42, "or a row of 0 bytes, 1 shorts, 2 ints, 3 longs, 4 booleans (items 0, 1)");
        for (long v : new long[] {1, 2, 256, 1L << 32, Long.MIN_VALUE, -1}) {
            x.item(0, 0, 0);
            items.is("a boolean 0", x.read(0, 0), 0);
            x.item(0, 0, v);
            items.is("a boolean " + v, x.read(0, 0), 1);
        }
    }

    private static void itemRefusals() {
        Sentence none = Sentence.of(42, "NONE");
        for (int tape : new int[] {-1, 6, LEAST, GREATEST}) {
            none.refuses("item(" + tape + ", 0, 1)", GuessFair.NONE, x -> x.item(tape, 0, 1));
        }
        Sentence nothing = Sentence.of(42, "NOTHING").refuses("item(4, 0, 1)", NOTHING, x -> x.item(4, 0, 1))
            .refuses("item(5, 0, 1)", NOTHING, x -> x.item(5, 0, 1));
        Sentence place = Sentence.of(42, "PLACE");
        for (int i : new int[] {-1, 4, 60, LEAST, GREATEST}) {
            place.refuses("item(0, " + i + ", 1)", PLACE, x -> x.item(0, i, 1));
        }
        place.refuses("item(3, 0, 1), a row of none", PLACE, x -> x.item(3, 0, 1));
        Sentence.of(42, "The host's refusals: NOTHING (-11): nothing is there").is("item(0, 0, 0)", new GuessFair().item(0, 0, 0), -11);
        GuessFair y = new GuessFair();
        y.tape(0, 0, 1);
        Sentence.of(42, "PLACE (-13): no such place").is("item(0, 1, 0)", y.item(0, 1, 0), -13);
        Sentence.of(42, "the first that a call's words name")
            .refuses("item(6, -1, 1)", GuessFair.NONE, x -> x.item(6, -1, 1))
            .refuses("item(4, -1, 1)", NOTHING, x -> x.item(4, -1, 1));
        nothing.is("no such place either: item(0, 99, 1)", new GuessFair().item(0, 99, 1), NOTHING);
    }

    private static void reads() {
        Sentence noTape = Sentence.of(43, "NO: no such TAPE");
        for (int tape : new int[] {-1, 6, LEAST, GREATEST}) {
            noTape.refuses("read(" + tape + ", 0)", GuessFair.NO, x -> x.read(tape, 0));
        }
        Sentence.of(43, "nothing there").refuses("read(4, 0)", GuessFair.NO, x -> x.read(4, 0)).refuses("read(5, 0)", GuessFair.NO, x -> x.read(5, 0));
        Sentence noPlace = Sentence.of(43, "no such place");
        for (int i : new int[] {-1, 4, 60, LEAST, GREATEST}) {
            noPlace.refuses("read(0, " + i + ")", GuessFair.NO, x -> x.read(0, i));
        }
        noPlace.refuses("read(3, 0), a row of none", GuessFair.NO, x -> x.read(3, 0));
        GuessFair x = new GuessFair();
        x.tape(0, 3, 60);
        x.item(0, 59, 5);
        noPlace.is("the last place: read(0, 59)", x.read(0, 59), 5).is("behind it: read(0, 60)", x.read(0, 60), GuessFair.NO);
        x.tape(0, 3, 59);
        noPlace.is("what was there: read(0, 59)", x.read(0, 59), GuessFair.NO);
    }

    /** Tape 0 has the ints 1 .. 4, tape 1 three ints. */
    private static GuessFair twoRows() {
        GuessFair x = new GuessFair();
        x.tape(0, 2, 4);
        x.tape(1, 2, 3);
        for (int i = 0; i < 4; i++) {
            x.item(0, i, i + 1);
        }
        return x;
    }

    private static void holds(Sentence s, String when, GuessFair x, int tape, int... wants) {
        for (int i = 0; i < wants.length; i++) {
            s.is(when + ": read(" + tape + ", " + i + ")", x.read(tape, i), wants[i]);
        }
    }

    private static void shifts() {
        Sentence s = Sentence.of(44, "n items of a TAPE from i on come to another one (or the same) from j on");
        GuessFair x = twoRows();
        s.is("shift(0, 1, 1, 0, 3), all of the other", x.shift(0, 1, 1, 0, 3), 3);
        holds(s, "all of the other", x, 1, 2, 3, 4);
        holds(s, "those stay", x, 0, 1, 2, 3, 4);
        s.is("shift(0, 0, 1, 2, 1), its last place", x.shift(0, 0, 1, 2, 1), 1);
        holds(s, "its last place", x, 1, 2, 3, 1);
        for (int sort = 0; sort < 5; sort++) {
            x.tape(2, sort, 60);
            x.tape(3, sort, 60);
            x.item(2, 59, 1);
            s.is("sort " + sort + ": shift(2, 0, 3, 0, 60)", x.shift(2, 0, 3, 0, 60), 60).is("read(3, 59)", x.read(3, 59), 1);
        }
    }

    private static void shiftOverlaps() {
        Sentence s = Sentence.of(44, "from j on, as they all were before: n.");
        GuessFair x = twoRows();
        s.is("shift(0, 0, 0, 1, 3), up", x.shift(0, 0, 0, 1, 3), 3);
        holds(s, "up", x, 0, 1, 1, 2, 3);
        x = twoRows();
        s.is("shift(0, 1, 0, 0, 3), down", x.shift(0, 1, 0, 0, 3), 3);
        holds(s, "down", x, 0, 2, 3, 4, 4);
        s.is("shift(0, 0, 0, 0, 4), where they were", x.shift(0, 0, 0, 0, 4), 4);
        holds(s, "where they were", x, 0, 2, 3, 4, 4);
    }

    private static void shiftRefusals() {
        Sentence none = Sentence.of(44, "NONE: tapes");
        for (int tape : new int[] {-1, 6, LEAST, GREATEST}) {
            none.refuses("shift(" + tape + ", 0, 0, 0, 1)", GuessFair.NONE, x -> x.shift(tape, 0, 0, 0, 1));
            none.refuses("shift(0, 0, " + tape + ", 0, 1)", GuessFair.NONE, x -> x.shift(0, 0, tape, 0, 1));
        }
        Sentence.of(44, "NOTHING")
            .refuses("shift(4, 0, 0, 0, 1)", NOTHING, x -> x.shift(4, 0, 0, 0, 1))
            .refuses("shift(0, 0, 4, 0, 1)", NOTHING, x -> x.shift(0, 0, 4, 0, 1))
            .refuses("shift(4, 0, 5, 0, 0)", NOTHING, x -> x.shift(4, 0, 5, 0, 0));
        Sentence cast = Sentence.of(44, "CAST: of unlike sorts")
            .refuses("shift(0, 0, 1, 0, 1)", CAST, x -> x.shift(0, 0, 1, 0, 1))
            .refuses("shift(1, 0, 3, 0, 0)", CAST, x -> x.shift(1, 0, 3, 0, 0));
        for (int sort = 0; sort < 5; sort++) {
            for (int other = 0; other < 5; other++) {
                GuessFair x = new GuessFair();
                x.tape(0, sort, 1);
                x.tape(1, other, 1);
                cast.is("sorts " + sort + " and " + other + ": shift(0, 0, 1, 0, 1)", x.shift(0, 0, 1, 0, 1), sort == other ? 1 : CAST);
            }
        }
        Sentence.of(44, "the first that a call's words name")
            .refuses("shift(6, 0, 4, 0, 1)", GuessFair.NONE, x -> x.shift(6, 0, 4, 0, 1))
            .refuses("shift(4, 0, 6, 0, 1)", GuessFair.NONE, x -> x.shift(4, 0, 6, 0, 1))
            .refuses("shift(6, -1, 0, 0, 1)", GuessFair.NONE, x -> x.shift(6, -1, 0, 0, 1))
            .refuses("shift(4, -1, 0, 0, 1)", NOTHING, x -> x.shift(4, -1, 0, 0, 1))
            .refuses("shift(1, 0, 4, 0, -1)", NOTHING, x -> x.shift(1, 0, 4, 0, -1))
            .refuses("shift(0, 0, 1, 0, -1)", CAST, x -> x.shift(0, 0, 1, 0, -1))
            .refuses("shift(0, 9, 1, 0, 1)", CAST, x -> x.shift(0, 9, 1, 0, 1));
    }

    private static void isPlace(Sentence s, int i, int j, int n) {
        s.refuses("two longs more, ", x -> x.tape(5, 3, 2), "shift(0, " + i + ", 5, " + j + ", " + n + ")", PLACE, x -> x.shift(0, i, 5, j, n));
        s.refuses("two longs more, ", x -> x.tape(5, 3, 2), "shift(5, " + j + ", 0, " + i + ", " + n + ")", PLACE, x -> x.shift(5, j, 0, i, n));
    }

    /** Tape 0 has four longs, tape 5 two. */
    private static void shiftPlaces() {
        Sentence below = Sentence.of(44, "PLACE: n, i or j is below 0");
        for (int n : new int[] {-1, -2, LEAST}) {
            isPlace(below, 0, 0, n);
            isPlace(below, 1, 1, n);
            isPlace(below, n, 0, 0);
            isPlace(below, 0, n, 0);
            isPlace(below, n, 0, 1);
            isPlace(below, 0, n, 1);
        }
    }

    private static void shiftEnds() {
        Sentence beyond = Sentence.of(44, "or beyond either's end.");
        int[][] places = {{3, 0, 2}, {2, 1, 2}, {4, 0, 1}, {5, 0, 0}, {0, 2, 1}, {0, 3, 0}, {0, 1, 2}, {0, 0, 3}, {0, 0, 5},
            {GREATEST, 0, 0}, {GREATEST, 0, 1}, {0, GREATEST, 0}, {0, GREATEST, 1}, {0, 0, GREATEST}, {1, 1, GREATEST},
            {GREATEST, GREATEST, GREATEST}};
        for (int[] p : places) {
            isPlace(beyond, p[0], p[1], p[2]);
        }
        GuessFair x = twoRows();
        beyond.is("none, at both ends: shift(0, 4, 1, 3, 0)", x.shift(0, 4, 1, 3, 0), 0);
        beyond.is("none behind the end: shift(0, 5, 1, 0, 0)", x.shift(0, 5, 1, 0, 0), PLACE);
        beyond.is("none behind the other's end: shift(0, 0, 1, 4, 0)", x.shift(0, 0, 1, 4, 0), PLACE);
        beyond.is("up to both ends: shift(0, 2, 1, 1, 2)", x.shift(0, 2, 1, 1, 2), 2);
        x.tape(2, 2, 0);
        beyond.is("rows of none: shift(2, 0, 2, 0, 0)", x.shift(2, 0, 2, 0, 0), 0);
        beyond.is("a row of none: shift(2, 0, 0, 0, 1)", x.shift(2, 0, 0, 0, 1), PLACE);
    }
}
