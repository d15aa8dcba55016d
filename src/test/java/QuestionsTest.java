/** Promises 15 to 31: means, gains, what was opened, what is best. */
public final class QuestionsTest {
    private static final int NO_GAIN = -100001, BAD_SET = -100002, NEITHER = -5;

    public static void main(String[] args) {
        means();
        gains();
        leasts();
        opened();
        left();
        odds();
        knew();
        best();
        safest();
        sure();
        hedges();
        against();
        when();
        crowd();
        cheap();
        burnt();
        worth();
        fullFair();
        Due.end();
    }

    private static void fraction(String of, long above, long below, long wantAbove, long wantBelow) {
        Due.is(of + " above", above, wantAbove);
        Due.is(of + " below", below, wantBelow);
    }

    private static void means() {
        GuessFair x = new GuessFair();
        x.envelope(0, 3, 0, 0);
        fraction("15: mean without worlds", x.mean(0, 0), x.mean(0, 1), GuessFair.NO, GuessFair.NO);
        x.world(4);
        x.world(6);
        x.world(5);
        fraction("15: mean 0", x.mean(0, 0), x.mean(0, 1), 0, 1);
        x.say(0, 1);
        fraction("15: mean 120 / 15", x.mean(0, 0), x.mean(0, 1), 8, 1);
        x.chance(1, 9);
        fraction("15: mean 120 / 18", x.mean(0, 0), x.mean(0, 1), 20, 3);
        Due.law(x, "tax 19 w=0;more 1 w>0");
        fraction("15: mean 58 / 18", x.mean(0, 0), x.mean(0, 1), 29, 9);
        Due.is("15: mean(0, 2)", x.mean(0, 2), GuessFair.NO);
        Due.is("15: mean(0, -1)", x.mean(0, -1), GuessFair.NO);
        Due.is("15: mean(1, 0)", x.mean(1, 0), GuessFair.NO);
        Due.is("15: mean(-1, 1)", x.mean(-1, 1), GuessFair.NO);
    }

    /** Gains of each: 30 -10 -10; -20 20 -20; 5 5 -5. */
    private static GuessFair fairOfThree() {
        GuessFair x = Due.fair(1, 2, 3);
        x.envelope(0, 4, 1, 10);
        x.envelope(0, 4, 2, 20);
        x.envelope(0, 1, 3, 5);
        return x;
    }

    private static void gains() {
        GuessFair x = fairOfThree();
        int[][] wants = {{0, 0, 0}, {30, -10, -10}, {-20, 20, -20}, {10, 10, -30},
            {5, 5, -5}, {35, -5, -15}, {-15, 25, -25}, {15, 15, -35}};
        for (int set = 0; set < 8; set++) {
            for (int w = 0; w < 3; w++) {
                Due.is("16: gain(" + set + ", " + w + ")", x.gain(set, w), wants[set][w]);
            }
        }
        Due.is("16: gain(8, 3)", x.gain(8, 3), NO_GAIN);
        Due.is("16: gain(0, -1)", x.gain(0, -1), NO_GAIN);
        Due.is("16: gain(8, 0)", x.gain(8, 0), BAD_SET);
        Due.is("16: gain(-1, 0)", x.gain(-1, 0), BAD_SET);
        Due.is("16: gain of the highest bit", x.gain(Integer.MIN_VALUE, 0), BAD_SET);
        x.price(0, 11);
        Due.is("16: gain(1, 0) at another price", x.gain(1, 0), 29);
    }

    private static void leasts() {
        GuessFair x = fairOfThree();
        int[] wants = {0, -10, -20, -30, -5, -15, -25, -35};
        for (int set = 0; set < 8; set++) {
            Due.is("17: least(" + set + ")", x.least(set), wants[set]);
        }
        Due.is("17: least(8)", x.least(8), BAD_SET);
        Due.is("17: least(-1)", x.least(-1), BAD_SET);
        x = new GuessFair();
        Due.is("17: least(1) of nothing", x.least(1), BAD_SET);
        x.envelope(0, 1, 0, 9);
        Due.is("17: least(1) without worlds", x.least(1), 0);
        Due.is("17: least(2) without worlds", x.least(2), BAD_SET);
    }

    private static void opened() {
        GuessFair x = fairOfThree();
        Due.is("18: open(3, true)", x.open(3, true), GuessFair.NONE);
        Due.is("18: open(-2, true)", x.open(-2, true), GuessFair.NONE);
        for (int n = 1; n <= 8; n++) {
            Due.is("18: open, the " + n + ".", x.open(n % 3, n % 2 == 0), n);
        }
        Due.is("18: open, a ninth", x.open(0, true), GuessFair.FULL);
        Due.is("18: open, a ninth of none", x.open(3, true), GuessFair.NONE);
        Due.is("18: count(3)", x.count(3), 8);
        Due.is("18: open(-1, true)", x.open(-1, true), 0);
        Due.is("18: count(3) then", x.count(3), 0);
        Due.is("18: open(0, true) again", x.open(0, true), 1);
        Due.is("18: open(-1, false)", x.open(-1, false), 0);
    }

    private static void left() {
        GuessFair x = new GuessFair();
        Due.is("19: left() without worlds", x.left(), 0);
        x = fairOfThree();
        Due.is("19: left(), nothing opened", x.left(), 7);
        x.open(2, true);
        Due.is("19: left(), 2 is true", x.left(), 3);
        x.open(0, false);
        Due.is("19: left(), 0 is false", x.left(), 2);
        x.say(0, 6);
        Due.is("19: left(), as things are now", x.left(), 1);
        x.open(0, true);
        Due.is("19: left(), 0 is both", x.left(), 0);
        x.open(-1, true);
        Due.is("19: left(), none opened then", x.left(), 7);
        x.world(1);
        Due.is("19: left(), a world more", x.left(), 15);
    }

    private static void odds() {
        GuessFair x = Due.fair(2, 4, 6, 9);
        x.envelope(0, 1, 3, 0);
        x.envelope(0, 1, 7, 0);
        x.envelope(0, 1, 0, 0);
        fraction("20: odds(0), 6 / 21", x.odds(0, 0), x.odds(0, 1), 2, 7);
        x.open(1, true);
        fraction("20: odds(0), 6 / 12", x.odds(0, 0), x.odds(0, 1), 1, 2);
        fraction("20: odds(1), 12 / 12", x.odds(1, 0), x.odds(1, 1), 1, 1);
        fraction("20: odds(2), 0 / 12", x.odds(2, 0), x.odds(2, 1), 0, 1);
        x.open(0, false);
        fraction("20: odds(0), 0 / 6", x.odds(0, 0), x.odds(0, 1), 0, 1);
        Due.is("20: odds(0, 2)", x.odds(0, 2), GuessFair.NO);
        Due.is("20: odds(0, -1)", x.odds(0, -1), GuessFair.NO);
        Due.is("20: odds(3, 0)", x.odds(3, 0), GuessFair.NO);
        Due.is("20: odds(-1, 0)", x.odds(-1, 0), GuessFair.NO);
        x.open(2, true);
        fraction("20: odds(0), none is left", x.odds(0, 0), x.odds(0, 1), GuessFair.NO, GuessFair.NO);
    }

    private static void knew() {
        GuessFair x = Due.fair(2, 4, 6);
        x.envelope(0, 1, 3, 0);
        x.envelope(0, 1, 7, 0);
        x.envelope(0, 1, 0, 0);
        x.envelope(0, 1, 1, 0);
        Due.is("21: knew(), nothing opened", x.knew(), 2);
        x.open(0, true);
        Due.is("21: knew(), 0 is true", x.knew(), 3);
        x.open(3, true);
        Due.is("21: knew(), 3 is true", x.knew(), 11);
        x.open(2, true);
        Due.is("21: knew(), none is left", x.knew(), 0);
        Due.is("21: knew() without worlds", new GuessFair().knew(), 0);
    }

    private static void isBest(String of, GuessFair x, int envelope, int saying, int sum) {
        Due.is("22: " + of + ": best(.., 0)", x.best(envelope, 0), saying);
        Due.is("22: " + of + ": best(.., 1)", x.best(envelope, 1), sum);
    }

    private static void best() {
        GuessFair x = new GuessFair();
        for (int kind = 0; kind < 7; kind++) {
            x.envelope(kind, 3, 0, 0);
        }
        isBest("no worlds", x, 0, 0, 0);
        x.world(10);
        x.world(20);
        x.world(5);
        isBest("a plain one", x, 0, 7, 30 * 35);
        isBest("a near one", x, 1, 7, 30 * 35);
        isBest("a rare one", x, 2, 2, 120 * 20);
        isBest("a surprising one", x, 4, 7, 50 * 10 + 40 * 20 + 55 * 5);
        isBest("a contrary one", x, 5, 2, 120 * 20 + 10 * 15);
        x.chance(0, 20);
        isBest("a rare one, two alike", x, 2, 1, 120 * 20);
        Due.is("22: the saying stays", x.of(2, 2), 0);
        Due.law(x, "base 0;more 9 s=2&w=1");
        isBest("a law of two said", x, 0, 3, 9 * 20);
        Due.law(x, "base 0;tax 9 e=0");
        isBest("nothing is paid", x, 0, 0, 0);
        x.pass(25);
        Due.law(x, "base 10");
        isBest("a late one, late", x, 3, 7, 5 * 45);
        Due.is("22: best(7, 0)", x.best(7, 0), GuessFair.NONE);
        Due.is("22: best(-1, 0)", x.best(-1, 0), GuessFair.NONE);
        Due.is("22: best(0, 2)", x.best(0, 2), GuessFair.NONE);
        Due.is("22: best(0, -1)", x.best(0, -1), GuessFair.NONE);
    }

    private static void safest() {
        GuessFair x = new GuessFair();
        x.envelope(0, 1, 0, 0);
        Due.is("23: safest(0) without worlds", x.safest(0), 0);
        Due.is("23: safest(1) without worlds", x.safest(1), 0);
        x = fairOfThree();
        Due.is("23: safest(0), all may lose", x.safest(0), 0);
        Due.is("23: safest(1), all may lose", x.safest(1), 0);
        x.envelope(0, 4, 4, 8);
        // Gains of 1, 2 and 4 alone: 30 -10 -10; -20 20 -20; -8 -8 32; of all three: 2 2 2; with 3: 7 7 -3.
        Due.is("23: safest(0), of four", x.safest(0), 11);
        Due.is("23: safest(1), of four", x.safest(1), 2);
        x.envelope(0, 0, 0, 0);
        Due.is("23: safest(0), of several the least", x.safest(0), 11);
        x.price(2, 0);
        Due.is("23: safest(0), 2 is free", x.safest(0), 11);
        x.say(2, 4);
        Due.is("23: safest(0), 2 is free for world 2", x.safest(0), 11);
        x = Due.fair(1, 1);
        x.envelope(5, 1, 0, 9);
        Due.is("23: safest(0), one alone", x.safest(0), 1);
        Due.is("24: sure(), the first alone", x.sure(), 1);
        x.price(0, 10);
        Due.is("23: safest(0), a least of 0", x.safest(0), 0);
        Due.is("23: safest(2)", x.safest(2), NO_GAIN);
        Due.is("23: safest(-1)", x.safest(-1), NO_GAIN);
    }

    private static void sure() {
        GuessFair x = fairOfThree();
        Due.is("24: sure(), there is none", x.sure(), 0);
        x.envelope(0, 4, 4, 8);
        Due.is("24: sure(), three of four", x.sure(), 11);
        x.price(3, 10);
        Due.is("24: sure(), a least of 0 is not above it", x.sure(), 0);
        x.envelope(5, 1, 0, 9);
        Due.is("24: sure(), one alone", x.sure(), 16);
        x.price(2, 0);
        x.say(2, 7);
        Due.is("24: sure(), the least of several", x.sure(), 4);
        x = new GuessFair();
        x.envelope(0, 1, 0, 0);
        Due.is("24: sure() without worlds", x.sure(), 0);
    }

    private static void hedges() {
        GuessFair x = Due.fair(1, 1);
        Due.is("25: hedge(), no envelopes", x.hedge(), NEITHER);
        x.envelope(0, 4, 1, 0);
        Due.is("25: hedge(), one", x.hedge(), NEITHER);
        x.envelope(0, 1, 1, 50);
        Due.is("25: hedge(), two", x.hedge(), 1);
        x.envelope(0, 3, 2, 90);
        Due.is("25: hedge(), of three", x.hedge(), 2);
        x.envelope(0, 1, 2, 0);
        Due.is("25: hedge(), the narrowest", x.hedge(), 13);
        x.envelope(0, 4, 2, 0);
        Due.is("25: hedge(), of several the first", x.hedge(), 4);
        x.say(0, 3);
        x.say(4, 0);
        Due.is("25: hedge(), also of one side", x.hedge(), 4);
        x.envelope(0, 0, 0, 0);
        x.envelope(0, 0, 0, 0);
        x.say(4, 1);
        Due.is("25: hedge(), later ones", x.hedge(), 5);
        x = new GuessFair();
        x.envelope(0, 1, 0, 0);
        x.envelope(0, 1, 0, 0);
        Due.is("25: hedge() without worlds", x.hedge(), NEITHER);
    }

    private static void against() {
        GuessFair x = Due.fair(1, 1, 1);
        x.envelope(0, 1, 3, 0);
        x.envelope(0, 1, 4, 0);
        x.envelope(0, 1, 6, 0);
        x.envelope(0, 1, 0, 0);
        int[] wants = {10, 9, 8, 7};
        for (int n = 0; n < 4; n++) {
            Due.is("26: against(" + n + ")", x.against(n), wants[n]);
        }
        Due.is("26: against(4)", x.against(4), GuessFair.NONE);
        Due.is("26: against(-1)", x.against(-1), GuessFair.NONE);
    }

    private static void isWhen(String of, GuessFair x, int envelope, int n, int days, int sum) {
        Due.is("27: " + of + ": when(.., 0)", x.when(envelope, n, 0), days);
        Due.is("27: " + of + ": when(.., 1)", x.when(envelope, n, 1), sum);
    }

    private static void when() {
        GuessFair x = Due.fair(2, 3);
        x.envelope(6, 1, 1, 0);
        isWhen("a late one", x, 0, 60, 0, 20);
        x.row(0, 3, 9);
        isWhen("the row of day 3", x, 0, 60, 3, 2 * 16 + 3 * 9);
        isWhen("not so far", x, 0, 2, 0, 20);
        isWhen("just as far", x, 0, 3, 3, 59);
        x.pass(1);
        isWhen("a day later", x, 0, 60, 2, 59);
        Due.law(x, "more 50 d=61;more 40 d>30&d<33");
        isWhen("a law of later days", x, 0, 60, 60, 5 * 50);
        isWhen("a law of less late days", x, 0, 59, 30, 5 * 40 + 5 * 9);
        Due.is("27: the day stays", x.told(0), 1);
        Due.is("27: when(0, 61, 0)", x.when(0, 61, 0), GuessFair.BAD);
        Due.is("27: when(0, -1, 1)", x.when(0, -1, 1), GuessFair.BAD);
        Due.is("27: when(0, 61, 2)", x.when(0, 61, 2), GuessFair.NONE);
        Due.is("27: when(0, 0, -1)", x.when(0, 0, -1), GuessFair.NONE);
        Due.is("27: when(1, 61, 0)", x.when(1, 61, 0), GuessFair.NONE);
        Due.is("27: when(-1, 0, 0)", x.when(-1, 0, 0), GuessFair.NONE);
        x = new GuessFair();
        x.envelope(0, 1, 0, 0);
        isWhen("no worlds", x, 0, 60, 0, 0);
        for (int n = 0; n < 101; n++) {
            x.pass(99);
        }
        x.world(1);
        x.envelope(6, 0, 0, 0);
        x.row(1, 1, 4);
        isWhen("beyond the last day", x, 1, 60, 2, 4);
        x = Due.fair(2, 3);
        x.pass(7);
        x.envelope(0, 0, 0, 0);
        Due.law(x, "more 50 d=1|d=20");
        isWhen("of several the least", x, 0, 60, 1, 5 * 50);
    }

    private static void crowd() {
        GuessFair x = new GuessFair();
        x.envelope(0, 1, 0, 99);
        Due.is("28: crowd(0) without worlds", x.crowd(0), NEITHER);
        Due.is("28: crowd(1) without worlds", x.crowd(1), NEITHER);
        Due.is("28: crowd(2) without worlds", x.crowd(2), GuessFair.NONE);
        Due.is("28: crowd(-1) without worlds", x.crowd(-1), GuessFair.NONE);
        x.world(1);
        x.world(30);
        x.world(1);
        Due.is("28: crowd(0), none is true", x.crowd(0), 0);
        Due.is("28: crowd(1), none is true", x.crowd(1), 0);
        x.envelope(0, 9, 2, 5);
        x.envelope(0, 0, 6, 7);
        Due.is("28: crowd(0)", x.crowd(0), 1);
        Due.is("28: crowd(1)", x.crowd(1), 12);
        x.envelope(0, 0, 5, 5);
        Due.is("28: crowd(0), of several the first", x.crowd(0), 1);
        x.price(3, 6);
        Due.is("28: crowd(0), another price", x.crowd(0), 2);
        Due.is("28: crowd(1), another price", x.crowd(1), 13);
        Due.is("28: crowd(2)", x.crowd(2), GuessFair.NONE);
        Due.is("28: crowd(-1)", x.crowd(-1), GuessFair.NONE);
    }

    private static void cheap() {
        GuessFair x = new GuessFair();
        x.envelope(0, 3, 0, 0);
        Due.is("29: cheap() without worlds", x.cheap(), 0);
        x.world(1);
        x.world(2);
        Due.is("29: cheap(), a mean of 0", x.cheap(), 0);
        x.envelope(0, 3, 1, 9);
        x.envelope(0, 3, 1, 10);
        x.envelope(0, 2, 1, 6);
        x.envelope(0, 2, 1, 7);
        Due.is("29: cheap()", x.cheap(), 2 + 8);
        x.say(0, 2);
        Due.is("29: cheap(), the first too", x.cheap(), 1 + 2 + 8);
    }

    private static void burnt() {
        GuessFair x = fairOfThree();
        // Gains of all: 15 15 -35; of all others: -15 25 -25; 35 -5 -15; 10 10 -30.
        int[] wants = {10, 20, 5};
        for (int n = 0; n < 3; n++) {
            Due.is("30: burnt(" + n + ")", x.burnt(n), wants[n]);
        }
        x.say(2, 4);
        // Gains of all: 5 5 -25; without 2: 10 10 -30.
        Due.is("30: burnt(2), below 0", x.burnt(2), -5);
        Due.is("30: burnt(3)", x.burnt(3), NO_GAIN);
        Due.is("30: burnt(-1)", x.burnt(-1), NO_GAIN);
        x = new GuessFair();
        x.envelope(0, 0, 0, 9);
        Due.is("30: burnt(0) without worlds", x.burnt(0), 0);
        x.world(1);
        Due.is("30: burnt(0) alone", x.burnt(0), 9);
    }

    private static void worth() {
        GuessFair x = new GuessFair();
        x.envelope(0, 3, 0, 0);
        Due.is("31: worth(0) without worlds", x.worth(0), 0);
        x.world(1);
        x.world(1);
        x.envelope(0, 3, 2, 0);
        x.envelope(0, 9, 3, 0);
        x.envelope(2, 9, 1, 0);
        Due.is("31: worth(0)", x.worth(0), 4);
        Due.is("31: worth(1)", x.worth(1), 3);
        Due.is("31: worth(30)", x.worth(30), 3);
        Due.is("31: worth(31)", x.worth(31), 2);
        Due.is("31: worth(90)", x.worth(90), 2);
        Due.is("31: worth(99)", x.worth(99), 1);
        Due.is("31: worth(100)", x.worth(100), GuessFair.BAD);
        Due.is("31: worth(-1)", x.worth(-1), GuessFair.BAD);
    }

    /** Six worlds of chances 1 .. 6 and eight contrary envelopes, each true in one of them or in none. */
    private static void fullFair() {
        GuessFair x = Due.fair(1, 2, 3, 4, 5, 6);
        for (int n = 0; n < 8; n++) {
            x.envelope(5, 1, n < 6 ? 1 << n : 0, 9);
        }
        for (int n = 0; n < 8; n++) {
            int sum = 10 * 21 + (n < 6 ? 30 * (n + 1) : 0);
            Due.is("15: full: mean(" + n + ", 0) / mean(" + n + ", 1)", 21 * x.mean(n, 0), sum * x.mean(n, 1));
            Due.is("22: full: best(" + n + ", 0)", x.best(n, 0), 32);
            Due.is("22: full: best(" + n + ", 1)", x.best(n, 1), 10 * 21 + 30 * 6);
            Due.is("26: full: against(" + n + ")", x.against(n), 255 - (1 << n));
            Due.is("30: full: burnt(" + n + ")", x.burnt(n), n < 6 ? -31 : -1);
        }
        Due.is("16: full: gain(255, 5)", x.gain(255, 5), 38);
        Due.is("17: full: least(255)", x.least(255), 38);
        Due.is("16: full: gain(256, 5)", x.gain(256, 5), BAD_SET);
        Due.is("23: full: safest(0)", x.safest(0), 255);
        Due.is("23: full: safest(1)", x.safest(1), 38);
        Due.is("24: full: sure()", x.sure(), 1);
        Due.is("25: full: hedge()", x.hedge(), 67);
        Due.is("28: full: crowd(0)", x.crowd(0), 0);
        x.price(5, 10);
        Due.is("28: full: crowd(0), the last", x.crowd(0), 5);
        Due.is("28: full: crowd(1), the last", x.crowd(1), 10);
        Due.is("29: full: cheap()", x.cheap(), 255);
        Due.is("31: full: worth(10)", x.worth(10), 8);
        Due.is("31: full: worth(40)", x.worth(40), 6);
        Due.is("13: full: come(5)", x.come(5), 110);
        Due.is("19: full: left()", x.left(), 63);
        x.open(5, true);
        Due.is("20: full: odds(5, 0)", x.odds(5, 0), 1);
        Due.is("21: full: knew()", x.knew(), 32);
        for (int n = 0; n < 8; n++) {
            x.price(n, 11);
            x.say(n, 0);
        }
        Due.is("24: full: sure(), there is none", x.sure(), 0);
        x.say(7, 63);
        x.price(7, 5);
        Due.is("24: full: sure(), the last alone", x.sure(), 128);
        x.price(7, 6);
        for (int n = 0; n < 7; n++) {
            x.price(n, 10);
        }
        Due.is("24: full: sure(), none again", x.sure(), 0);
        Due.law(x, "more 1 w<9");
        for (int n = 0; n < 8; n++) {
            x.price(n, n == 7 ? 0 : 12);
        }
        Due.is("24: full: sure(), the last again", x.sure(), 128);
    }
}
