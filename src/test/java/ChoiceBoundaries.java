/** Promises 25 to 31: the sentences that name a boundary case. */
final class ChoiceBoundaries {
    private static final int LEAST = Integer.MIN_VALUE, GREATEST = Integer.MAX_VALUE;
    private static final int NEITHER = -5, NO_GAIN = -100001;

    private ChoiceBoundaries() {
    }

    static void all() {
        Sentence.each(
            ChoiceBoundaries::hedge, ChoiceBoundaries::against, ChoiceBoundaries::whenEnds, ChoiceBoundaries::whenTies,
            ChoiceBoundaries::whenRefusals, ChoiceBoundaries::crowd, ChoiceBoundaries::cheap, ChoiceBoundaries::burnt,
            ChoiceBoundaries::worth);
    }

    private static void hedge() {
        GuessFair x = new GuessFair();
        Sentence neither = Sentence.of(25, "-5: there are fewer than two, or no WORLDS").is("nothing at all: hedge()", x.hedge(), NEITHER);
        x.envelope(0, 1, 0, 0);
        x.envelope(0, 1, 0, 0);
        neither.is("two, no worlds: hedge()", x.hedge(), NEITHER);
        neither.is("no envelopes, a world: hedge()", Due.fair(1).hedge(), NEITHER);
        GuessFair one = Due.fair(1);
        one.envelope(0, 1, 1, 0);
        neither.is("one, a world: hedge()", one.hedge(), NEITHER);
        x.world(1);
        Sentence s = Sentence.of(25, "10 times the lesser number, and the greater one (of several the first");
        s.is("two, one world: hedge()", x.hedge(), 1);
        x = Due.fair(1, 1);
        for (int n = 0; n < 8; n++) {
            x.envelope(0, n + 1, 1, 0);
        }
        s.is("each the wider the later: hedge()", x.hedge(), 1);
        x.say(7, 2);
        s.is("the last two: hedge()", x.hedge(), 67);
        x.say(6, 3);
        x.say(5, 3);
        s.is("5 and 6 are as wide as nothing: hedge()", x.hedge(), 56);
        x.say(0, 0);
        s.is("0 too, and is the first: hedge()", x.hedge(), 5);
        Sentence.of(25, "HEDGE; -5").is("nothing at all: hedge()", new GuessFair().hedge(), NEITHER);
    }

    private static void against() {
        GuessFair x = Due.fair(1, 1);
        x.envelope(0, 0, 0, 0);
        Sentence s = Sentence.of(26, "AGAINST of an ENVELOPE: those others, as bits, that are TRUE in no WORLD where it is TRUE.");
        s.is("alone, true in none: against(0)", x.against(0), 0);
        for (int n = 1; n < 8; n++) {
            x.envelope(0, 0, n % 4, 0);
        }
        s.is("true in none: against(0)", x.against(0), 254)
            .is("true in the first: against(1)", x.against(1), 1 + 4 + 16 + 64)
            .is("true in all: against(3)", x.against(3), 1 + 16)
            .is("true in all, the last: against(7)", x.against(7), 1 + 16);
        x = new GuessFair();
        x.envelope(0, 0, 0, 0);
        x.envelope(0, 0, 0, 0);
        s.is("no worlds: against(1)", x.against(1), 1);
        Sentence none = Sentence.of(26, "NONE");
        for (int n : new int[] {-1, 3, 8, LEAST, GREATEST}) {
            none.refuses("against(" + n + ")", GuessFair.NONE, y -> y.against(n));
        }
        none.is("no envelopes: against(0)", new GuessFair().against(0), GuessFair.NONE);
    }

    private static void isWhen(Sentence s, String when, GuessFair x, int n, int days, int sum) {
        s.is(when + "when(0, " + n + ", 0)", x.when(0, n, 0), days);
        s.is(when + "when(0, " + n + ", 1)", x.when(0, n, 1), sum);
    }

    private static void whenEnds() {
        GuessFair x = Due.fair(3);
        x.envelope(0, 0, 0, 0);
        Due.law(x, "more 1 d>0;more 1 d>58;more 1 d>59;more 1 d>60");
        Sentence s = Sentence.of(27, "OPEN of an ENVELOPE and n (0 .. 60): the k (0 .. n) by which, were DAY k more");
        isWhen(s, "", x, 0, 0, 0);
        isWhen(s, "", x, 1, 1, 3);
        isWhen(s, "", x, 58, 1, 3);
        isWhen(s, "", x, 59, 59, 6);
        isWhen(s, "", x, 60, 60, 9);
        s.is("the day stays: told(0)", x.told(0), 0);
        GuessFair noWorlds = new GuessFair();
        noWorlds.envelope(3, 9, 0, 0);
        isWhen(s, "no worlds: ", noWorlds, 60, 0, 0);
    }

    private static void whenTies() {
        GuessFair x = Due.fair(3);
        x.envelope(6, 0, 0, 0);
        Sentence s = Sentence.of(27, "times CHANCE, together, is most (of several the least): k; that sum.");
        isWhen(s, "nothing is paid: ", x, 60, 0, 0);
        x.row(0, 2, 4);
        isWhen(s, "each fourth day: ", x, 60, 2, 12);
        x.pass(2);
        isWhen(s, "each fourth day, from such a one on: ", x, 60, 0, 12);
        x.pass(1);
        isWhen(s, "each fourth day, from the one behind: ", x, 60, 3, 12);
        isWhen(s, "not so far: ", x, 2, 0, 0);
        Due.law(x, "more 50 d=99");
        x.pass(95);
        isWhen(s, "99 days old at most: ", x, 0, 0, 12);
        isWhen(s, "99 days old at most: ", x, 60, 4, 162);
    }

    private static void whenRefusals() {
        Sentence none = Sentence.of(27, "NONE");
        for (int n : new int[] {-1, 3, 8, LEAST, GREATEST}) {
            none.refuses("when(" + n + ", 0, 0)", GuessFair.NONE, x -> x.when(n, 0, 0));
        }
        for (int what : new int[] {-1, 2, LEAST, GREATEST}) {
            none.refuses("when(0, 0, " + what + ")", GuessFair.NONE, x -> x.when(0, 0, what));
        }
        Sentence bad = Sentence.of(27, "BAD: n");
        for (int n : new int[] {-1, 61, LEAST, GREATEST}) {
            bad.refuses("when(0, " + n + ", 0)", GuessFair.BAD, x -> x.when(0, n, 0));
            bad.refuses("when(0, " + n + ", 1)", GuessFair.BAD, x -> x.when(0, n, 1));
        }
        Sentence.of(27, "the first that a call's words name")
            .refuses("when(3, 61, 0)", GuessFair.NONE, x -> x.when(3, 61, 0))
            .refuses("when(0, 61, 2)", GuessFair.NONE, x -> x.when(0, 61, 2));
    }

    private static void crowd() {
        GuessFair x = new GuessFair();
        x.envelope(0, 1, 0, 9);
        Sentence.of(28, "-5: there are no WORLDS)").is("crowd(0)", x.crowd(0), NEITHER).is("crowd(1)", x.crowd(1), NEITHER);
        Sentence.of(28, "what 0 the WORLD, 1 the sum; -5").is("crowd(0)", new GuessFair().crowd(0), -5).is("crowd(1)", new GuessFair().crowd(1), -5);
        for (int w = 0; w < 6; w++) {
            x.world(1);
        }
        Sentence s = Sentence.of(28, "are TRUE there, together, are most (of several the first");
        s.is("true in none: crowd(0)", x.crowd(0), 0).is("true in none: crowd(1)", x.crowd(1), 0);
        x.envelope(0, 0, 36, 5);
        s.is("two alike: crowd(0)", x.crowd(0), 2).is("two alike: crowd(1)", x.crowd(1), 5);
        x.envelope(0, 0, 32, 1);
        s.is("the last by one more: crowd(0)", x.crowd(0), 5).is("the last by one more: crowd(1)", x.crowd(1), 6);
        x.envelope(0, 0, 1, 6);
        s.is("the first as much: crowd(0)", x.crowd(0), 0).is("the first as much: crowd(1)", x.crowd(1), 6);
        x.say(0, 2);
        s.is("the first envelope alone: crowd(0)", x.crowd(0), 1).is("the first envelope alone: crowd(1)", x.crowd(1), 9);
        s.is("no envelopes: crowd(0)", Due.fair(1, 1).crowd(0), 0).is("no envelopes: crowd(1)", Due.fair(1, 1).crowd(1), 0);
        Sentence none = Sentence.of(28, "NONE");
        for (int what : new int[] {-1, 2, LEAST, GREATEST}) {
            none.refuses("crowd(" + what + ")", GuessFair.NONE, y -> y.crowd(what));
            none.is("no worlds: crowd(" + what + ")", new GuessFair().crowd(what), GuessFair.NONE);
        }
    }

    private static void cheap() {
        GuessFair x = new GuessFair();
        x.envelope(5, 1, 0, 0);
        Sentence s = Sentence.of(29, "whose PRICE is less than MEAN (there are no WORLDS: none)")
            .is("no worlds: cheap()", x.cheap(), 0)
            .is("no envelopes: cheap()", Due.fair(1).cheap(), 0);
        x = Due.fair(1, 2);
        for (int n = 0; n < 8; n++) {
            x.envelope(n < 3 ? 5 : 0, 1, n < 3 ? 0 : 1, n < 3 ? 9 + n : n);
        }
        // Means of 0 .. 2: 10, prices 9 10 11; of the others: 10 / 3, prices 3 .. 7.
        s.is("one less, the same, one more; 10 / 3 and prices from 3 on: cheap()", x.cheap(), 1 + 8);
        x.price(7, 0);
        x.say(6, 0);
        x.price(6, 0);
        s.is("the last is free; a price and a mean of 0: cheap()", x.cheap(), 1 + 8 + 128);
    }

    private static void burnt() {
        GuessFair x = new GuessFair();
        x.envelope(5, 1, 0, 4);
        Sentence s = Sentence.of(30, "is more than LEAST of all, together (may be below 0)").is("no worlds: burnt(0)", x.burnt(0), 0);
        x.world(1);
        s.is("alone, it gains: burnt(0)", x.burnt(0), -6);
        x.price(0, 10);
        s.is("alone, it gains nothing: burnt(0)", x.burnt(0), 0);
        x.price(0, 99);
        s.is("alone, it loses: burnt(0)", x.burnt(0), 89);
        for (int n = 1; n < 8; n++) {
            x.envelope(5, 1, 0, n);
        }
        s.is("the first of eight: burnt(0)", x.burnt(0), 89).is("the last of eight: burnt(7)", x.burnt(7), -3);
        Sentence none = Sentence.of(30, "-100001: NONE");
        for (int n : new int[] {-1, 3, 8, LEAST, GREATEST}) {
            none.refuses("burnt(" + n + ")", NO_GAIN, y -> y.burnt(n));
        }
        none.is("no envelopes: burnt(0)", Due.fair(1).burnt(0), NO_GAIN);
    }

    private static void worth() {
        GuessFair x = new GuessFair();
        x.envelope(5, 9, 0, 0);
        Sentence s = Sentence.of(31, "WORTH of n (0 .. 99): how many ENVELOPES pay n or more in some WORLD.")
            .is("no worlds: worth(0)", x.worth(0), 0)
            .is("no envelopes: worth(0)", Due.fair(1).worth(0), 0);
        x = Due.fair(1, 1);
        for (int n = 0; n < 8; n++) {
            x.envelope(0, n == 7 ? 9 : 0, n == 7 ? 2 : 0, 0);
        }
        s.is("worth(0)", x.worth(0), 8).is("worth(1)", x.worth(1), 1).is("worth(90)", x.worth(90), 1).is("worth(91)", x.worth(91), 0);
        x.say(7, 1);
        s.is("by the first world: worth(90)", x.worth(90), 1);
        x.say(7, 2);
        Due.law(x, "base 11");
        s.is("worth(99)", x.worth(99), 1);
        Due.law(x, "base 11;tax 1 w=1");
        s.is("98: worth(99)", x.worth(99), 0).is("98: worth(98)", x.worth(98), 1);
        Sentence bad = Sentence.of(31, "BAD: n");
        for (int n : new int[] {-1, 100, LEAST, GREATEST}) {
            bad.refuses("worth(" + n + ")", GuessFair.BAD, y -> y.worth(n));
        }
        bad.is("no worlds: worth(100)", new GuessFair().worth(100), GuessFair.BAD);
    }
}
