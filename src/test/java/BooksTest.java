/** Promises 32 to 34: book, looked, judge. */
public final class BooksTest {
    private static final int NEITHER = -5, CAST = -12;

    public static void main(String[] args) {
        books();
        looked();
        judged();
        judgeRefusals();
        Due.end();
    }

    private static void books() {
        GuessFair x = Due.fair(1, 1);
        x.envelope(0, 1, 1, 0);
        Due.is("32: book(1, 0, 0)", x.book(1, 0, 0), GuessFair.NONE);
        Due.is("32: book(-2, 0, 0)", x.book(-2, 0, 0), GuessFair.NONE);
        Due.is("32: book(0, 2, 10000)", x.book(0, 2, 10000), GuessFair.NONE);
        Due.is("32: book(0, -1, 0)", x.book(0, -1, 0), GuessFair.NONE);
        Due.is("32: book(0, 0, 10000)", x.book(0, 0, 10000), GuessFair.BAD);
        Due.is("32: book(0, 0, -1)", x.book(0, 0, -1), GuessFair.BAD);
        Due.is("32: count(4), none came", x.count(4), 0);
        for (int n = 1; n <= 8; n++) {
            Due.is("32: book, the " + n + ".", x.book(0, n % 2, n == 1 ? 0 : 9999), n);
        }
        Due.is("32: book, a ninth", x.book(0, 0, 0), GuessFair.FULL);
        Due.is("32: book, a ninth, bad", x.book(0, 0, -1), GuessFair.BAD);
        Due.is("32: count(4)", x.count(4), 8);
        Due.is("32: book(-1, 9, -9)", x.book(-1, 9, -9), 0);
        Due.is("32: count(4), empty", x.count(4), 0);
        Due.is("32: book again", x.book(0, 0, 1), 1);
    }

    private static void looked() {
        GuessFair x = Due.fair(1, 1);
        Due.is("33: looked(), no rows", x.looked(), NEITHER);
        x.envelope(0, 1, 1, 0);
        x.envelope(3, 2, 2, 0);
        x.book(0, 0, 10);
        x.book(1, 0, 0);
        x.book(1, 1, 20);
        x.book(0, 1, 0);
        Due.is("33: looked(), all are so", x.looked(), NEITHER);
        x.pass(1);
        Due.is("33: looked(), a day later", x.looked(), 2);
        x.say(0, 2);
        Due.is("33: looked(), the first of several", x.looked(), 0);
        x.book(-1, 0, 0);
        Due.is("33: looked(), empty", x.looked(), NEITHER);
        x.book(1, 1, 20);
        Due.is("33: looked(), one row", x.looked(), 0);
    }

    private static void judged() {
        GuessFair x = new GuessFair();
        x.tape(0, 3, 5);
        Due.is("34: judge(0, 0), none to look at", x.judge(0, 0), NEITHER);
        x.envelope(0, 1, 0, 7);
        x.envelope(0, 1, 0, 8);
        x.envelope(0, 1, 0, 9);
        Due.is("34: judge(0, 0), the first is otherwise", x.judge(0, 0), 0);
        for (int n = 0; n < 3; n++) {
            x.item(0, n + 2, n + 7);
        }
        Due.is("34: judge(0, 2), all are so", x.judge(0, 2), NEITHER);
        Due.is("34: judge(0, 1)", x.judge(0, 1), 0);
        Due.is("34: judge(0, 3), otherwise ahead of the end", x.judge(0, 3), 0);
        x.item(0, 4, 10);
        Due.is("34: judge(0, 2), the last is otherwise", x.judge(0, 2), 2);
        x.item(0, 3, 8 + (1L << 32));
        Due.is("34: judge(0, 2), otherwise by a high bit", x.judge(0, 2), 1);
        x.item(0, 3, 7);
        x.item(0, 4, 8);
        Due.is("34: judge(0, 3), the row ends", x.judge(0, 3), 102);
        Due.is("34: judge(0, 5), the row ends", x.judge(0, 5), 100);
        Due.is("34: judge(0, -1)", x.judge(0, -1), 100);
        Due.is("34: judge of the greatest place", x.judge(0, Integer.MAX_VALUE), 100);
        Due.is("34: judge of the least place", x.judge(0, Integer.MIN_VALUE), 100);
        Due.is("34: judge(1, 0), holds nothing", x.judge(1, 0), 100);
    }

    private static void judgeRefusals() {
        GuessFair x = new GuessFair();
        x.envelope(0, 1, 0, 0);
        Due.is("34: judge(6, 0)", x.judge(6, 0), GuessFair.NONE);
        Due.is("34: judge(-1, 0)", x.judge(-1, 0), GuessFair.NONE);
        for (int sort = 0; sort < 5; sort++) {
            x.tape(2, sort, 1);
            Due.is("34: judge(2, 0) of sort " + sort, x.judge(2, 0), sort == 3 ? NEITHER : CAST);
            Due.is("34: judge(2, -1) of sort " + sort, x.judge(2, -1), sort == 3 ? 100 : CAST);
        }
        x.tape(2, -1, 0);
        Due.is("34: judge(2, 0), nothing again", x.judge(2, 0), 100);
    }
}
