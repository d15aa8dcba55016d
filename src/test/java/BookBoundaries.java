/** Promises 32 to 36: the sentences that name a boundary case. */
final class BookBoundaries {
    private static final int LEAST = Integer.MIN_VALUE, GREATEST = Integer.MAX_VALUE;
    private static final int NEITHER = -5, CAST = -12;

    private BookBoundaries() {
    }

    static void all() {
        Sentence.each(
            BookBoundaries::books, BookBoundaries::emptyBooks, BookBoundaries::bookRefusals, BookBoundaries::looked,
            BookBoundaries::judgeEnds, BookBoundaries::judgeOtherwise, BookBoundaries::judgeRowEnds,
            BookBoundaries::judgeRefusals, BookBoundaries::images, BookBoundaries::undone, BookBoundaries::imageKeeps);
    }

    private static void books() {
        GuessFair x = Due.fair(1);
        x.envelope(0, 0, 1, 0);
        Sentence s = Sentence.of(32, "A BOOK told by hand: an ENVELOPE, a WORLD, a PAY (0 .. 9999; 8 at most)");
        s.is("book(0, 0, 0)", x.book(0, 0, 0), 1).is("book(0, 0, 9999)", x.book(0, 0, 9999), 2);
        for (int n = 3; n <= 8; n++) {
            s.is("book(0, 0, 1), the " + n + ".", x.book(0, 0, 1), n);
        }
        s.is("book(0, 0, 1), the 9.", x.book(0, 0, 1), GuessFair.FULL).is("count(4)", x.count(4), 8);
        s.is("looked(), 9999 is otherwise", x.looked(), 1);
    }

    private static void emptyBooks() {
        GuessFair x = Due.fair(1);
        x.envelope(0, 0, 1, 0);
        for (int n = 0; n < 8; n++) {
            x.book(0, 0, 1);
        }
        Sentence.of(32, "(envelope -1: it is empty then, 0, whatever the others are)")
            .is("book(-1, 0, 0), of eight rows", x.book(-1, 0, 0), 0)
            .is("count(4)", x.count(4), 0)
            .is("looked()", x.looked(), NEITHER)
            .is("book(-1, 0, 0), of none", x.book(-1, 0, 0), 0)
            .is("book(0, 0, 1) then", x.book(0, 0, 1), 1)
            .is("book(-1, -9, 10000)", x.book(-1, -9, 10000), 0)
            .is("count(4) then", x.count(4), 0)
            .is("nothing at all: book(-1, 6, -1)", new GuessFair().book(-1, 6, -1), 0);
    }

    private static void eightRows(GuessFair x) {
        for (int n = 2; n < 8; n++) {
            x.book(2, 2, n);
        }
    }

    private static void bookRefusals() {
        Sentence none = Sentence.of(32, "NONE: envelope, world");
        for (int n : new int[] {-2, 3, 8, LEAST, GREATEST}) {
            none.refuses("book(" + n + ", 0, 1)", GuessFair.NONE, x -> x.book(n, 0, 1));
        }
        for (int w : new int[] {-1, 3, 6, LEAST, GREATEST}) {
            none.refuses("book(0, " + w + ", 1)", GuessFair.NONE, x -> x.book(0, w, 1));
        }
        Sentence bad = Sentence.of(32, "BAD: pay");
        for (int pay : new int[] {-1, 10000, LEAST, GREATEST}) {
            bad.refuses("book(0, 0, " + pay + ")", GuessFair.BAD, x -> x.book(0, 0, pay));
        }
        String when = "eight rows, ";
        Sentence.of(32, "FULL: 8").refuses(when, BookBoundaries::eightRows, "book(0, 0, 1)", GuessFair.FULL, x -> x.book(0, 0, 1));
        Sentence.of(32, "the first that a call's words name")
            .refuses("book(3, 0, -1)", GuessFair.NONE, x -> x.book(3, 0, -1))
            .refuses("book(0, 3, -1)", GuessFair.NONE, x -> x.book(0, 3, -1))
            .refuses(when, BookBoundaries::eightRows, "book(3, 0, 1)", GuessFair.NONE, x -> x.book(3, 0, 1))
            .refuses(when, BookBoundaries::eightRows, "book(0, 0, 10000)", GuessFair.BAD, x -> x.book(0, 0, 10000));
    }

    private static void looked() {
        GuessFair x = Due.fair(1, 1);
        Sentence s = Sentence.of(33, "the number of the first of these rows by which PAY is otherwise now (-5: none)");
        s.is("no rows: looked()", x.looked(), NEITHER);
        x.envelope(0, 1, 1, 0);
        x.envelope(0, 1, 2, 0);
        for (int n = 0; n < 8; n++) {
            x.book(n == 7 ? 1 : 0, n == 7 ? 1 : 0, 10);
        }
        s.is("all eight are so: looked()", x.looked(), NEITHER);
        x.say(1, 0);
        s.is("the last is otherwise: looked()", x.looked(), 7);
        x.say(0, 0);
        s.is("all are otherwise: looked()", x.looked(), 0);
        x.book(-1, 0, 0);
        x.book(0, 0, 1);
        s.is("otherwise by one: looked()", x.looked(), 0);
        x.book(-1, 0, 0);
        x.book(0, 0, 0);
        s.is("0 as told: looked()", x.looked(), NEITHER);
        x.say(0, 1);
        x.book(-1, 0, 0);
        x.book(1, 0, 0);
        x.book(0, 1, 0);
        x.book(0, 0, 10);
        s.is("each of its own envelope and world: looked()", x.looked(), NEITHER);
        x.say(0, 2);
        s.is("the second is otherwise: looked()", x.looked(), 1);
        Sentence.of(33, "LOOKED at; -5").is("nothing at all: looked()", new GuessFair().looked(), -5);
    }

    /** Eight envelopes of prices 0, 14, .. 98, tape 0 with them from place 2 on, and nothing behind. */
    private static GuessFair judged() {
        GuessFair x = new GuessFair();
        x.tape(0, 3, 10);
        for (int n = 0; n < 8; n++) {
            x.envelope(0, 0, 0, 14 * n);
            x.item(0, n + 2, 14 * n);
        }
        return x;
    }

    private static void judgeEnds() {
        GuessFair x = new GuessFair();
        x.tape(0, 3, 2);
        x.tape(2, 3, 0);
        Sentence none = Sentence.of(34, "-5: none, or there is none to look at;");
        none.is("no envelopes: judge(0, 0)", x.judge(0, 0), NEITHER)
            .is("no envelopes, the end of the row: judge(0, 2)", x.judge(0, 2), NEITHER)
            .is("no envelopes, a row of none: judge(2, 0)", x.judge(2, 0), NEITHER);
        x = judged();
        none.is("all eight are so, up to the end: judge(0, 2)", x.judge(0, 2), NEITHER);
        x.tape(0, 3, 60);
        for (int n = 0; n < 8; n++) {
            x.price(n, 99);
            x.item(0, n + 52, 99);
        }
        none.is("the last eight of sixty: judge(0, 52)", x.judge(0, 52), NEITHER);
    }

    private static void judgeOtherwise() {
        GuessFair x = judged();
        Sentence s = Sentence.of(34, "PRICES told by a row of longs, from a place on, ENVELOPE by ENVELOPE, are JUDGED: the first that is otherwise;");
        s.is("judge(0, 0)", x.judge(0, 0), 1).is("judge(0, 3)", x.judge(0, 3), 0).is("judge(0, 9), the last place", x.judge(0, 9), 0);
        x.price(7, 97);
        s.is("the last is otherwise: judge(0, 2)", x.judge(0, 2), 7);
        x.price(0, 1);
        s.is("the first and the last: judge(0, 2)", x.judge(0, 2), 0);
        x.price(0, 0);
        x.item(0, 2, 1L << 32);
        s.is("by a bit that no int has: judge(0, 2)", x.judge(0, 2), 0);
        x.item(0, 2, Long.MIN_VALUE);
        s.is("by the highest bit: judge(0, 2)", x.judge(0, 2), 0);
    }

    private static void judgeRowEnds() {
        GuessFair x = judged();
        Sentence s = Sentence.of(34, "100 and how many were looked at, if the row ends ahead of that");
        x.tape(0, 3, 9);
        for (int n = 0; n < 7; n++) {
            x.item(0, n + 2, 14 * n);
        }
        s.is("one too few: judge(0, 2)", x.judge(0, 2), 107);
        s.is("the end of the row: judge(0, 9)", x.judge(0, 9), 100);
        s.is("behind it: judge(0, 10)", x.judge(0, 10), 100);
        s.is("far behind it: judge(0, GREATEST)", x.judge(0, GREATEST), 100);
        x.item(0, 8, 0);
        s.is("the last place: judge(0, 8)", x.judge(0, 8), 101);
        x.tape(1, 3, 0);
        s.is("a row of none: judge(1, 0)", x.judge(1, 0), 100);
        Sentence below = Sentence.of(34, "(or the place is below 0, or the TAPE holds nothing)");
        for (int i : new int[] {-1, -2, -8, LEAST}) {
            below.is("judge(0, " + i + ")", x.judge(0, i), 100);
            below.is("holds nothing: judge(5, " + i + ")", x.judge(5, i), 100);
        }
        below.is("holds nothing: judge(5, 0)", x.judge(5, 0), 100).is("holds nothing: judge(5, GREATEST)", x.judge(5, GREATEST), 100);
        x.tape(0, -1, 0);
        below.is("holds nothing again: judge(0, 2)", x.judge(0, 2), 100);
    }

    private static void judgeRefusals() {
        Sentence none = Sentence.of(34, "NONE: tape");
        for (int tape : new int[] {-1, 6, LEAST, GREATEST}) {
            none.refuses("judge(" + tape + ", 0)", GuessFair.NONE, x -> x.judge(tape, 0));
        }
        none.is("no envelopes: judge(6, 0)", new GuessFair().judge(6, 0), GuessFair.NONE);
        Sentence cast = Sentence.of(34, "CAST: it is no row of longs")
            .refuses("judge(1, 0), bytes", CAST, x -> x.judge(1, 0))
            .refuses("judge(2, 0), booleans", CAST, x -> x.judge(2, 0))
            .refuses("judge(1, -1), bytes", CAST, x -> x.judge(1, -1))
            .refuses("judge(1, 3), bytes", CAST, x -> x.judge(1, 3));
        for (int sort = 0; sort < 5; sort++) {
            GuessFair x = new GuessFair();
            x.envelope(0, 0, 0, 0);
            x.tape(0, sort, 1);
            cast.is("sort " + sort + ": judge(0, 0)", x.judge(0, 0), sort == 3 ? NEITHER : CAST);
        }
    }

    private static void images() {
        GuessFair x = new GuessFair();
        Sentence s = Sentence.of(35, "THE IMAGE is taken: how many ENVELOPES there are.").is("nothing at all: image()", x.image(), 0);
        for (int n = 0; n < 8; n++) {
            x.envelope(n % 7, n, 0, n);
        }
        s.is("eight envelopes: image()", x.image(), 8).is("undo()", x.undo(), 8).is("of(7, 3)", x.of(7, 3), 7);
    }

    private static void undone() {
        GuessFair x = new GuessFair();
        Sentence.of(36, "STATE: there is none").is("undo()", x.undo(), GuessFair.STATE);
        x.world(1);
        x.envelope(0, 1, 1, 7);
        x.book(0, 0, 3);
        Sentence.of(36, "What is answered so changes nothing")
            .is("undo() without an image", x.undo(), GuessFair.STATE)
            .is("count(0)", x.count(0), 1).is("count(1)", x.count(1), 1).is("count(4)", x.count(4), 1).is("of(0, 3)", x.of(0, 3), 7);
        Sentence s = Sentence.of(36, "All is as THE IMAGE: how many ENVELOPES.");
        x.image();
        x.price(0, 8);
        s.is("undo()", x.undo(), 1).is("of(0, 3)", x.of(0, 3), 7).is("undo() at once again", x.undo(), 1);
        x.price(0, 9);
        x.envelope(0, 0, 0, 0);
        s.is("undo() of the same image", x.undo(), 1).is("of(0, 3)", x.of(0, 3), 7).is("of(1, 3)", x.of(1, 3), GuessFair.NONE);
        x = new GuessFair();
        x.image();
        for (int n = 0; n < 8; n++) {
            x.world(1);
            x.envelope(6, 1, 1, 9);
            x.row(n, 3, 9);
            x.open(n, true);
            x.book(n, 0, 1);
        }
        s.is("eight to none: undo()", x.undo(), 0);
        for (int what = 0; what < 5; what++) {
            s.is("eight to none: count(" + what + ")", x.count(what), 0);
        }
        s.is("world(2) then", x.world(2), 0).is("envelope(6, ..) then", x.envelope(6, 0, 1, 0), 0).is("row(0, 3, 0) then", x.row(0, 3, 0), 0);
        Sentence.of(36, "STATE (-3) as told").is("undo()", new GuessFair().undo(), -3);
    }

    private static void imageKeeps() {
        GuessFair x = Due.fair(5);
        x.envelope(6, 1, 1, 7);
        x.row(0, 1, 3);
        x.open(0, false);
        x.book(0, 0, 3);
        x.come(0);
        Due.law(x, "base 4");
        x.image();
        x.chance(0, 9);
        x.say(0, 0);
        x.price(0, 8);
        x.row(0, 1, 4);
        x.open(-1, true);
        x.open(0, true);
        x.book(-1, 0, 0);
        x.book(0, 0, 6);
        x.come(0);
        Due.law(x, "base 5");
        x.undo();
        Sentence.of(36, "THE IMAGE: WORLDS, ENVELOPES with all that is theirs, DAY, PAID, OPENED, the BOOK, which LAW holds.")
            .is("told(10)", x.told(10), 5).is("of(0, 2)", x.of(0, 2), 1).is("of(0, 3)", x.of(0, 3), 7)
            .is("told(0)", x.told(0), 1).is("told(1)", x.told(1), 10).is("told(2)", x.told(2), 4)
            .is("count(3)", x.count(3), 1).is("left()", x.left(), 0).is("count(4)", x.count(4), 1)
            .is("pay(0, 0)", x.pay(0, 0), 4 - 1 + 3).is("looked()", x.looked(), 0)
            .is("row(0, 1, 0)", x.row(0, 1, 0), 3).is("count(2), laws stay", x.count(2), 2);
    }
}
