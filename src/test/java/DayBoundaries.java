/** Promises 11 to 14, and the words of part 1 about what is paid: the sentences that name a boundary case. */
final class DayBoundaries {
    private static final int LEAST = Integer.MIN_VALUE, GREATEST = Integer.MAX_VALUE;

    private DayBoundaries() {
    }

    static void all() {
        Sentence.each(
            DayBoundaries::told, DayBoundaries::passing, DayBoundaries::coming, DayBoundaries::mostPaid,
            DayBoundaries::payRefusals, DayBoundaries::plain, DayBoundaries::nearSides, DayBoundaries::nearHalves,
            DayBoundaries::rare, DayBoundaries::late, DayBoundaries::surprising, DayBoundaries::contrary,
            DayBoundaries::toldOnes, DayBoundaries::belowNothing);
    }

    private static void pays(Sentence s, String when, GuessFair x, int envelope, int... wants) {
        for (int w = 0; w < wants.length; w++) {
            s.is(when + "pay(" + envelope + ", " + w + ")", x.pay(envelope, w), wants[w]);
        }
    }

    private static void lastDay(GuessFair x) {
        for (int n = 0; n < 100; n++) {
            x.pass(99);
        }
        x.pass(96);
    }

    private static GuessFair onLastDay() {
        GuessFair x = Due.fair(1);
        x.envelope(0, 1, 1, 0);
        lastDay(x);
        x.pass(3);
        return x;
    }

    private static void told() {
        Sentence none = Sentence.of(11, "NONE");
        for (int what : new int[] {-1, 4, 9, 13, 15, 16, LEAST, GREATEST}) {
            none.refuses("told(" + what + ")", GuessFair.NONE, x -> x.told(what));
        }
        none.is("no worlds: told(10)", new GuessFair().told(10), GuessFair.NONE);
        GuessFair x = Due.fair(1, 2, 3, 4, 5, 30);
        Sentence.of(11, "What 0 DAY, 1 PAID, 2 BASE, 3 CHANCES of all WORLDS, together, 10 and w CHANCE of WORLD w.")
            .is("no worlds: told(3)", new GuessFair().told(3), 0)
            .is("six worlds: told(3)", x.told(3), 45)
            .is("told(10), the first", x.told(10), 1)
            .is("told(15), the last", x.told(15), 30)
            .is("told(16)", x.told(16), GuessFair.NONE)
            .is("the last day: told(0)", onLastDay().told(0), 9999);
    }

    private static void passing() {
        GuessFair x = new GuessFair();
        Sentence.of(12, "n DAYS (0 .. 99) go: DAY.")
            .is("pass(0)", x.pass(0), 0)
            .is("pass(99)", x.pass(99), 99)
            .is("pass(0) again", x.pass(0), 99)
            .is("told(0)", x.told(0), 99);
        Sentence bad = Sentence.of(12, "BAD");
        for (int n : new int[] {-1, 100, LEAST, GREATEST}) {
            bad.refuses("pass(" + n + ")", GuessFair.BAD, y -> y.pass(n));
        }
        // The fair that is prepared has day 3 ahead of these 9996 days.
        String when = "the last day, ";
        Sentence state = Sentence.of(12, "STATE: it would be above 9999")
            .refuses(when, DayBoundaries::lastDay, "pass(1)", GuessFair.STATE, y -> y.pass(1))
            .refuses(when, DayBoundaries::lastDay, "pass(99)", GuessFair.STATE, y -> y.pass(99));
        x = onLastDay();
        state.is("the last day: pass(1)", x.pass(1), GuessFair.STATE).is("the last day: pass(0)", x.pass(0), 9999);
        x = new GuessFair();
        lastDay(x);
        state.is("three days ahead: pass(4)", x.pass(4), GuessFair.STATE).is("three days ahead: pass(3)", x.pass(3), 9999);
        Sentence.of(12, "the first that a call's words name")
            .refuses(when, DayBoundaries::lastDay, "pass(100)", GuessFair.BAD, y -> y.pass(100))
            .refuses(when, DayBoundaries::lastDay, "pass(-1)", GuessFair.BAD, y -> y.pass(-1));
    }

    private static void coming() {
        Sentence none = Sentence.of(13, "NONE");
        for (int w : new int[] {-1, 3, 6, LEAST, GREATEST}) {
            none.refuses("come(" + w + ")", GuessFair.NONE, x -> x.come(w));
        }
        none.is("no worlds: come(0)", new GuessFair().come(0), GuessFair.NONE);
        String when = "the last day, ";
        Sentence state = Sentence.of(13, "STATE: DAY is 9999")
            .refuses(when, DayBoundaries::lastDay, "come(0)", GuessFair.STATE, x -> x.come(0));
        GuessFair x = Due.fair(1);
        x.envelope(0, 1, 1, 0);
        lastDay(x);
        x.pass(2);
        state.is("the day ahead of it: come(0)", x.come(0), 10).is("told(0)", x.told(0), 9999)
            .is("come(0)", x.come(0), GuessFair.STATE).is("told(1)", x.told(1), 10).is("told(0)", x.told(0), 9999);
        Sentence.of(13, "the first that a call's words name")
            .refuses(when, DayBoundaries::lastDay, "come(3)", GuessFair.NONE, y -> y.come(3));
        x = Due.fair(1, 1);
        Sentence.of(13, "how much all ENVELOPES are paid, together.").is("no envelopes: come(1)", x.come(1), 0).is("told(0)", x.told(0), 1);
        x = Due.fair(4, 5);
        x.envelope(3, 1, 1, 0);
        Sentence.of(13, "DAY 1 more (WORLDS, ENVELOPES stay)")
            .is("come(0)", x.come(0), 10).is("told(0)", x.told(0), 1).is("come(0), a day later", x.come(0), 9)
            .is("count(0)", x.count(0), 1).is("count(1)", x.count(1), 2).is("told(10)", x.told(10), 4)
            .is("of(0, 1)", x.of(0, 1), 1).is("of(0, 2)", x.of(0, 2), 1).is("of(0, 4)", x.of(0, 4), 2);
    }

    /** 300 times 33264 are 9979200; 20799 more are just the most, and one more is cut. */
    private static void mostPaid() {
        GuessFair x = Due.fair(1);
        Due.law(x, "base 99;more 99 w=0;more 99 w=0;more 99 w=0;more 99 w=0;more 99 w=0;more 99 w=0");
        for (int n = 0; n < 8; n++) {
            x.envelope(2, 9, 1, 0);
        }
        Sentence s = Sentence.of(13, "PAID is PAY of all ENVELOPES in it more (9999999 at most)");
        for (int n = 1; n <= 300; n++) {
            s.is("come(0), the " + n + ".", x.come(0), 8 * (3564 + 594));
        }
        s.is("told(1)", x.told(1), 9979200);
        Due.law(x, "base 99;tax 99 e=5;tax 99 e=5;tax 99 e=5;tax 99 e=5;tax 99 e=5;tax 90 e=5");
        x.say(6, 0);
        x.say(7, 0);
        s.is("come(0), just the most", x.come(0), 20799).is("told(1), just the most", x.told(1), 9999999);
        Due.law(x, "base 0;more 1 e=3");
        s.is("come(0), one more", x.come(0), 1).is("told(1), the most still", x.told(1), 9999999).is("told(0)", x.told(0), 302);
    }

    private static void payRefusals() {
        Sentence none = Sentence.of(14, "NONE");
        for (int n : new int[] {-1, 3, 8, LEAST, GREATEST}) {
            none.refuses("pay(" + n + ", 0)", GuessFair.NONE, x -> x.pay(n, 0));
            none.refuses("pay(0, " + n + ")", GuessFair.NONE, x -> x.pay(0, n));
        }
        GuessFair x = new GuessFair();
        x.envelope(0, 0, 0, 0);
        none.is("no worlds: pay(0, 0)", x.pay(0, 0), GuessFair.NONE);
        none.is("no envelopes: pay(0, 0)", Due.fair(1).pay(0, 0), GuessFair.NONE);
    }

    private static void plain() {
        GuessFair x = Due.fair(1, 1, 1, 1, 1, 1);
        x.envelope(0, 9, 0, 0);
        x.envelope(0, 9, 63, 0);
        x.envelope(0, 0, 63, 0);
        x.envelope(0, 9, 33, 0);
        Sentence s = Sentence.of(14, "ENVELOPE: BASE times v, if it is TRUE there, else 0.");
        pays(s, "none said: ", x, 0, 0, 0, 0, 0, 0, 0);
        pays(s, "all said: ", x, 1, 90, 90, 90, 90, 90, 90);
        pays(s, "v of 0: ", x, 2, 0, 0, 0, 0, 0, 0);
        pays(Sentence.of(14, "It is TRUE in a WORLD, if that is one of its SAYING."), "first and last: ", x, 3, 90, 0, 0, 0, 0, 90);
    }

    private static void nearSides() {
        GuessFair x = Due.fair(1, 1, 1, 1, 1, 1);
        int[] sayings = {0, 1, 32, 33, 5, 63, 2, 16};
        int[][] wants = {{0, 0, 0, 0, 0, 0}, {40, 20, 0, 0, 0, 0}, {0, 0, 0, 0, 20, 40}, {40, 20, 0, 0, 20, 40},
            {40, 20, 40, 20, 0, 0}, {40, 40, 40, 40, 40, 40}, {20, 40, 20, 0, 0, 0}, {0, 0, 0, 20, 40, 20}};
        Sentence s = Sentence.of(14, "is in a WORLD whose number is 1 less or 1 more");
        for (int e = 0; e < 8; e++) {
            x.envelope(1, 4, sayings[e], 0);
            pays(s, "saying " + sayings[e] + ": ", x, e, wants[e]);
        }
        x = Due.fair(1);
        x.envelope(1, 4, 1, 0);
        x.envelope(1, 4, 0, 0);
        pays(s, "one world: ", x, 0, 40);
        pays(s, "one world, none said: ", x, 1, 0);
    }

    private static void nearHalves() {
        GuessFair x = Due.fair(1, 1);
        x.envelope(1, 1, 1, 0);
        x.envelope(1, 9, 1, 0);
        x.envelope(1, 0, 1, 0);
        x.envelope(4, 3, 1, 0);
        Due.law(x, "base 1");
        Sentence s = Sentence.of(14, "the half of BASE times v (cut)");
        pays(s, "1: ", x, 0, 1, 0);
        pays(s, "9: ", x, 1, 9, 4);
        pays(s, "0: ", x, 2, 0, 0);
        pays(s, "a surprising one of 3: ", x, 3, 3 + 29, 1);
    }

    private static void rare() {
        GuessFair x = Due.fair(1, 1, 1, 1, 1, 1);
        x.envelope(2, 1, 0, 0);
        x.envelope(2, 1, 32, 0);
        x.envelope(2, 1, 7, 0);
        x.envelope(2, 1, 63, 0);
        x.envelope(2, 0, 63, 0);
        Sentence s = Sentence.of(14, "4 times BASE times v, divided by how many WORLDS its SAYING has (cut), else 0");
        pays(s, "none said: ", x, 0, 0, 0, 0, 0, 0, 0);
        pays(s, "one said: ", x, 1, 0, 0, 0, 0, 0, 40);
        pays(s, "three said: ", x, 2, 13, 13, 13, 0, 0, 0);
        pays(s, "six said: ", x, 3, 6, 6, 6, 6, 6, 6);
        pays(s, "v of 0: ", x, 4, 0, 0, 0, 0, 0, 0);
    }

    private static void late() {
        GuessFair x = Due.fair(1, 1);
        x.pass(5);
        x.envelope(3, 1, 1, 0);
        Sentence s = Sentence.of(14, "less how many DAYS it is old (0 at least)");
        pays(s, "0 days: ", x, 0, 10, 0);
        x.pass(9);
        pays(s, "9 days: ", x, 0, 1, 0);
        x.pass(1);
        pays(s, "10 days: ", x, 0, 0, 0);
        x.pass(1);
        pays(s, "11 days: ", x, 0, 0, 0);
        Due.law(x, "more 4 w<2");
        pays(s, "11 days, and 4 more: ", x, 0, 4, 4);
        x = Due.fair(1);
        x.envelope(3, 9, 1, 0);
        Due.law(x, "base 20");
        x.pass(99);
        x.pass(1);
        pays(s, "100 days, of no most here: ", x, 0, 80);
    }

    private static void surprising() {
        GuessFair x = Due.fair(30, 1, 15);
        x.envelope(4, 2, 7, 0);
        x.envelope(4, 2, 4, 0);
        x.envelope(4, 2, 0, 0);
        x.envelope(4, 0, 7, 0);
        Sentence s = Sentence.of(14, "SURPRISING: as NEAR; if it is TRUE there, 30 less CHANCE of that WORLD more.");
        pays(s, "all said: ", x, 0, 20, 49, 35);
        pays(s, "the last said: ", x, 1, 0, 10, 35);
        pays(s, "none said: ", x, 2, 0, 0, 0);
        pays(s, "v of 0: ", x, 3, 0, 29, 15);
    }

    private static void contrary() {
        GuessFair x = Due.fair(1, 1, 1);
        x.envelope(5, 1, 0, 0);
        x.envelope(5, 1, 7, 0);
        x.envelope(5, 0, 1, 0);
        Sentence s = Sentence.of(14, "CONTRARY: as RARE, if it is TRUE there, else BASE.");
        pays(s, "none said: ", x, 0, 10, 10, 10);
        pays(s, "all said, cut: ", x, 1, 13, 13, 13);
        pays(s, "v of 0: ", x, 2, 0, 10, 10);
        Due.law(x, "base 0");
        pays(s, "base 0: ", x, 0, 0, 0, 0);
    }

    private static void toldOnes() {
        GuessFair x = Due.fair(1, 1);
        x.pass(3);
        x.envelope(6, 0, 0, 0);
        x.envelope(6, 1, 1, 0);
        int[] row = {9, 2, 3, 5};
        for (int part = 0; part < 4; part++) {
            x.row(0, part, row[part]);
            x.row(1, part, row[part]);
        }
        Sentence s = Sentence.of(14, "TOLD: as LATE, and its ROW (four numbers 0 .. 9; 0 at first) at DAY modulo 4 more.");
        for (int day = 3; day < 16; day++) {
            s.is("day " + day + ": pay(0, 0)", x.pay(0, 0), row[day % 4]);
            s.is("day " + day + ": pay(1, 0)", x.pay(1, 0), row[day % 4] + Math.max(0, 13 - day));
            s.is("day " + day + ": pay(1, 1)", x.pay(1, 1), row[day % 4]);
            x.pass(1);
        }
        x = onLastDay();
        x.envelope(6, 0, 0, 0);
        x.row(1, 3, 8);
        s.is("the last day: pay(1, 0)", x.pay(1, 0), 8);
    }

    private static void belowNothing() {
        GuessFair x = Due.fair(1, 1, 1);
        x.envelope(0, 1, 7, 0);
        Due.law(x, "tax 10 w=0;tax 11 w=1;tax 9 w=2");
        pays(Sentence.of(14, "PAY: GROSS and EXTRA, together (0 at least)."), "", x, 0, 0, 0, 1);
        Sentence.of(13, "PAY: GROSS and EXTRA, together (0 at least).").is("come(1)", x.come(1), 0).is("told(1)", x.told(1), 0);
    }
}
