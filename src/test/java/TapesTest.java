/** Promises 40 to 44: count, tape, item, read, shift. */
public final class TapesTest {
    private static final int NOTHING = -11, CAST = -12, PLACE = -13, SIZE = -14;
    private static final int LEAST = Integer.MIN_VALUE, GREATEST = Integer.MAX_VALUE;

    public static void main(String[] args) {
        counts();
        tapes();
        items();
        reads();
        shifts();
        shiftRefusals();
        Due.end();
    }

    private static void counts() {
        GuessFair x = Due.fair(1, 2, 3);
        x.envelope(0, 1, 1, 0);
        x.envelope(3, 1, 1, 0);
        Due.law(x, "base 1");
        x.open(0, true);
        x.open(0, true);
        x.open(0, true);
        x.open(0, true);
        x.book(0, 0, 1);
        x.book(0, 0, 1);
        x.book(0, 0, 1);
        x.book(0, 0, 1);
        x.book(0, 0, 1);
        Due.feed(x, "base 1");
        x.act(1, 2, 1);
        int[] wants = {2, 3, 1, 4, 5, 6, 6};
        for (int what = 0; what < 7; what++) {
            Due.is("40: count(" + what + ")", x.count(what), wants[what]);
        }
        Due.is("40: count(7)", x.count(7), GuessFair.BAD);
        Due.is("40: count(-1)", x.count(-1), GuessFair.BAD);
    }

    private static void tapes() {
        GuessFair x = new GuessFair();
        for (int sort = 0; sort < 5; sort++) {
            Due.is("41: tape(0, " + sort + ", 60)", x.tape(0, sort, 60), 1);
            Due.is("41: read(0, 59)", x.read(0, 59), 0);
            Due.is("41: read(0, 60)", x.read(0, 60), GuessFair.NO);
            Due.is("41: read(0, 0)", x.read(0, 0), 0);
            x.item(0, 0, 1);
            x.item(0, 59, 1);
        }
        Due.is("41: tape(5, 4, 0)", x.tape(5, 4, 0), 1);
        Due.is("41: read(5, 0)", x.read(5, 0), GuessFair.NO);
        Due.is("41: item(5, 0, 1): a row of none", x.item(5, 0, 1), PLACE);
        Due.is("41: tape(6, 9, -9)", x.tape(6, 9, -9), GuessFair.NONE);
        Due.is("41: tape(-1, 0, 1)", x.tape(-1, 0, 1), GuessFair.NONE);
        Due.is("41: tape(0, 5, -1)", x.tape(0, 5, -1), GuessFair.BAD);
        Due.is("41: tape(0, -2, 1)", x.tape(0, -2, 1), GuessFair.BAD);
        Due.is("41: tape(0, 0, 61)", x.tape(0, 0, 61), GuessFair.BAD);
        Due.is("41: tape(0, 0, GREATEST)", x.tape(0, 0, GREATEST), GuessFair.BAD);
        Due.is("41: tape(0, 0, -1)", x.tape(0, 0, -1), SIZE);
        Due.is("41: tape(0, 0, LEAST)", x.tape(0, 0, LEAST), SIZE);
        Due.is("41: what was refused changed nothing", x.read(0, 59), 1);
        Due.is("41: tape(0, 2, 3) anew", x.tape(0, 2, 3), 1);
        Due.is("41: all 0 anew", x.read(0, 2), 0);
        Due.is("41: tape(0, -1, 61)", x.tape(0, -1, 61), 1);
        Due.is("41: tape(0, -1, -1)", x.tape(0, -1, -1), 1);
        Due.is("41: read(0, 0) of nothing", x.read(0, 0), GuessFair.NO);
    }

    private static void items() {
        GuessFair x = new GuessFair();
        long[] values = {0, 1, 2, -1, 127, 128, 255, 256, 32767, 32768, 65536, 1L << 31, 1L << 32, Long.MAX_VALUE, Long.MIN_VALUE};
        for (int sort = 0; sort < 5; sort++) {
            x.tape(sort, sort, 4);
            for (long v : values) {
                long[] wants = {(byte) v, (short) v, (int) v, v, v == 0 ? 0 : 1};
                Due.is("42: item(" + sort + ", 3, " + v + ")", x.item(sort, 3, v), 1);
                Due.is("42: read(" + sort + ", 3) of " + v, x.read(sort, 3), wants[sort]);
            }
            Due.is("42: others stay", x.read(sort, 2), 0);
        }
        Due.is("42: item(6, 0, 0)", x.item(6, 0, 0), GuessFair.NONE);
        Due.is("42: item(-1, 0, 0)", x.item(-1, 0, 0), GuessFair.NONE);
        Due.is("42: item(5, -1, 0)", x.item(5, -1, 0), NOTHING);
        Due.is("42: item(0, 4, 0)", x.item(0, 4, 0), PLACE);
        Due.is("42: item(0, -1, 0)", x.item(0, -1, 0), PLACE);
        Due.is("42: item(0, LEAST, 0)", x.item(0, LEAST, 0), PLACE);
    }

    private static void reads() {
        GuessFair x = new GuessFair();
        x.tape(0, 3, 2);
        x.item(0, 1, 77);
        Due.is("43: read(0, 1)", x.read(0, 1), 77);
        Due.is("43: read(0, 2)", x.read(0, 2), GuessFair.NO);
        Due.is("43: read(0, -1)", x.read(0, -1), GuessFair.NO);
        Due.is("43: read(0, GREATEST)", x.read(0, GREATEST), GuessFair.NO);
        Due.is("43: read(1, 0)", x.read(1, 0), GuessFair.NO);
        Due.is("43: read(6, 0)", x.read(6, 0), GuessFair.NO);
        Due.is("43: read(-1, 0)", x.read(-1, 0), GuessFair.NO);
    }

    /** Tape 0: shorts 1 .. 5; tape 1: shorts, three of them. */
    private static GuessFair twoTapes() {
        GuessFair x = new GuessFair();
        x.tape(0, 1, 5);
        x.tape(1, 1, 3);
        for (int i = 0; i < 5; i++) {
            x.item(0, i, i + 1);
        }
        return x;
    }

    private static void holds(String when, GuessFair x, int tape, int... wants) {
        for (int i = 0; i < wants.length; i++) {
            Due.is("44: " + when + ": read(" + tape + ", " + i + ")", x.read(tape, i), wants[i]);
        }
    }

    private static void shifts() {
        GuessFair x = twoTapes();
        Due.is("44: shift(0, 1, 1, 0, 3)", x.shift(0, 1, 1, 0, 3), 3);
        holds("to another", x, 1, 2, 3, 4);
        holds("from here", x, 0, 1, 2, 3, 4, 5);
        Due.is("44: shift(0, 0, 0, 1, 4)", x.shift(0, 0, 0, 1, 4), 4);
        holds("up in the same", x, 0, 1, 1, 2, 3, 4);
        Due.is("44: shift(0, 2, 0, 0, 3)", x.shift(0, 2, 0, 0, 3), 3);
        holds("down in the same", x, 0, 2, 3, 4, 3, 4);
        Due.is("44: shift(0, 5, 1, 3, 0)", x.shift(0, 5, 1, 3, 0), 0);
        Due.is("44: shift(0, 0, 0, 0, 5)", x.shift(0, 0, 0, 0, 5), 5);
        holds("to itself", x, 0, 2, 3, 4, 3, 4);
    }

    private static void shiftRefusals() {
        GuessFair x = twoTapes();
        x.tape(2, 0, 5);
        Due.is("44: shift(6, 0, 0, 0, 1)", x.shift(6, 0, 0, 0, 1), GuessFair.NONE);
        Due.is("44: shift(0, 0, 6, 0, 1)", x.shift(0, 0, 6, 0, 1), GuessFair.NONE);
        Due.is("44: shift(3, 0, -1, 0, 1)", x.shift(3, 0, -1, 0, 1), GuessFair.NONE);
        Due.is("44: shift(3, 0, 0, 0, 1)", x.shift(3, 0, 0, 0, 1), NOTHING);
        Due.is("44: shift(0, -1, 3, 0, 1)", x.shift(0, -1, 3, 0, 1), NOTHING);
        Due.is("44: shift(0, -1, 2, 0, 1)", x.shift(0, -1, 2, 0, 1), CAST);
        int[][] places = {{0, 0, -1}, {-1, 0, 1}, {0, -1, 1}, {3, 0, 3}, {0, 1, 3}, {6, 0, 0}, {0, 4, 0}, {0, 0, 4},
            {GREATEST, 0, 1}, {0, GREATEST, 1}, {1, 0, GREATEST}, {GREATEST, GREATEST, GREATEST}, {0, 0, LEAST},
            {LEAST, 0, 0}, {0, LEAST, 0}, {-1, 0, 0}, {0, -1, 0}};
        for (int[] p : places) {
            String call = "44: shift(0, " + p[0] + ", 1, " + p[1] + ", " + p[2] + ")";
            Due.is(call, x.shift(0, p[0], 1, p[1], p[2]), PLACE);
        }
        holds("refused", x, 0, 1, 2, 3, 4, 5);
        holds("refused", x, 1, 0, 0, 0);
    }
}
