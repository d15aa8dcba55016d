/** Promises 15 to 24: the sentences that name a boundary case. */
final class QuestionBoundaries {
    private static final int LEAST = Integer.MIN_VALUE, GREATEST = Integer.MAX_VALUE;
    private static final int NO_GAIN = -100001, BAD_SET = -100002;

    private QuestionBoundaries() {
    }

    static void all() {
        Sentence.each(
            QuestionBoundaries::means, QuestionBoundaries::meanRefusals, QuestionBoundaries::gains,
            QuestionBoundaries::leasts, QuestionBoundaries::opened, QuestionBoundaries::left, QuestionBoundaries::odds,
            QuestionBoundaries::knew, QuestionBoundaries::bestEnds, QuestionBoundaries::bestTies,
            QuestionBoundaries::bestRefusals, QuestionBoundaries::safest, QuestionBoundaries::sure);
    }

    private static void fraction(Sentence s, String call, GuessFair x, int envelope, long above, long below) {
        s.is(call + ", above", x.mean(envelope, 0), above).is(call + ", below", x.mean(envelope, 1), below);
    }

    private static void means() {
        GuessFair x = new GuessFair();
        x.envelope(0, 1, 0, 0);
        fraction(Sentence.of(15, "(NO: there are no WORLDS)"), "no worlds: mean(0, ..)", x, 0, GuessFair.NO, GuessFair.NO);
        x.world(30);
        Sentence s = Sentence.of(15, "by CHANCES of all WORLDS, together: a fraction in lowest terms");
        fraction(s, "0 / 30: mean(0, ..)", x, 0, 0, 1);
        x.say(0, 1);
        fraction(s, "300 / 30: mean(0, ..)", x, 0, 10, 1);
        x.world(1);
        fraction(s, "300 / 31: mean(0, ..)", x, 0, 300, 31);
        x.chance(1, 30);
        fraction(s, "300 / 60: mean(0, ..)", x, 0, 5, 1);
        x.chance(1, 18);
        fraction(s, "300 / 48: mean(0, ..)", x, 0, 25, 4);
        x = Due.fair(1);
        x.envelope(0, 1, 1, 0);
        fraction(s, "the least chance, 10 / 1: mean(0, ..)", x, 0, 10, 1);
        x = Due.fair(30, 30, 30, 30, 30, 30);
        x.envelope(2, 9, 32, 0);
        Due.law(x, "base 99;more 99 w=5;more 99 w=5;more 99 w=5;more 99 w=5");
        fraction(s, "the greatest, 118800 / 180: mean(0, ..)", x, 0, 660, 1);
    }

    private static void meanRefusals() {
        Sentence no = Sentence.of(15, "NO");
        for (int n : new int[] {-1, 3, 8, LEAST, GREATEST}) {
            no.refuses("mean(" + n + ", 0)", GuessFair.NO, x -> x.mean(n, 0));
            no.refuses("mean(" + n + ", 1)", GuessFair.NO, x -> x.mean(n, 1));
        }
        for (int part : new int[] {-1, 2, LEAST, GREATEST}) {
            no.refuses("mean(0, " + part + ")", GuessFair.NO, x -> x.mean(0, part));
        }
        GuessFair half = Due.fair(1, 1);
        half.envelope(0, 1, 1, 0);
        Sentence.of(15, "part 0 above, 1 below the line").is("10 / 2: mean(0, 0)", half.mean(0, 0), 5).is("10 / 2: mean(0, 1)", half.mean(0, 1), 1);
        Sentence.of(15, "`NO = Long.MIN_VALUE`: There is no such number.").is("mean(0, 0)", new GuessFair().mean(0, 0), Long.MIN_VALUE);
    }

    private static void gains() {
        GuessFair x = Due.fair(1, 1);
        for (int n = 0; n < 8; n++) {
            x.envelope(0, n, 2, 2 * n);
        }
        Sentence.of(16, "PAY there of all of these less PRICE of all of these, together.")
            .is("none: gain(0, 1)", x.gain(0, 1), 0)
            .is("the first: gain(1, 1)", x.gain(1, 1), 0)
            .is("the last: gain(128, 1)", x.gain(128, 1), 56)
            .is("all: gain(255, 1)", x.gain(255, 1), 28 * 8)
            .is("all, below 0: gain(255, 0)", x.gain(255, 0), -56);
        Sentence none = Sentence.of(16, "-100001: NONE: world");
        for (int w : new int[] {-1, 3, 6, LEAST, GREATEST}) {
            none.refuses("gain(1, " + w + ")", NO_GAIN, y -> y.gain(1, w));
        }
        none.is("no worlds: gain(0, 0)", new GuessFair().gain(0, 0), NO_GAIN);
        Sentence bad = Sentence.of(16, "-100002: BAD: bits of ENVELOPES that there are not");
        for (int set : new int[] {8, 9, 128, 256, -1, -8, LEAST, GREATEST}) {
            bad.refuses("gain(" + set + ", 0)", BAD_SET, y -> y.gain(set, 0));
        }
        bad.is("eight envelopes: gain(256, 0)", x.gain(256, 0), BAD_SET);
        bad.is("no envelopes: gain(1, 0)", Due.fair(1).gain(1, 0), BAD_SET);
        Sentence.of(16, "the first that a call's words name").refuses("gain(8, 3)", NO_GAIN, y -> y.gain(8, 3));
    }

    private static void leasts() {
        GuessFair x = new GuessFair();
        x.envelope(0, 1, 0, 40);
        Sentence.of(17, "its least GAIN in any WORLD (0: there are no WORLDS)")
            .is("least(1)", x.least(1), 0)
            .is("least(0)", x.least(0), 0)
            .is("no envelopes: least(0)", new GuessFair().least(0), 0);
        x.world(1);
        Sentence s = Sentence.of(17, "LEAST of a set: its least GAIN in any WORLD")
            .is("none: least(0)", x.least(0), 0)
            .is("one world: least(1)", x.least(1), -40);
        x.say(0, 1);
        s.is("one world: least(1), above that", x.least(1), -30);
        for (int w = 1; w < 6; w++) {
            x.world(1);
        }
        s.is("six worlds: least(1)", x.least(1), -40);
        x.say(0, 31);
        s.is("the last is the least: least(1)", x.least(1), -40);
        x.say(0, 62);
        s.is("the first is the least: least(1)", x.least(1), -40);
        x.say(0, 63);
        s.is("all alike: least(1)", x.least(1), -30);
        Sentence bad = Sentence.of(17, "-100002: BAD");
        for (int set : new int[] {8, 9, 128, 256, -1, -8, LEAST, GREATEST}) {
            bad.refuses("least(" + set + ")", BAD_SET, y -> y.least(set));
        }
        bad.is("no worlds, no envelopes: least(1)", new GuessFair().least(1), BAD_SET);
    }

    private static void eightOpened(GuessFair x) {
        for (int n = 2; n < 8; n++) {
            x.open(2, n % 2 == 0);
        }
    }

    private static void opened() {
        GuessFair x = Due.fair(1);
        x.envelope(0, 1, 1, 0);
        Sentence most = Sentence.of(18, "OPENED told by hand: an ENVELOPE, whether it was TRUE (8 at most).");
        for (int n = 1; n <= 8; n++) {
            most.is("open(0, true), the " + n + ".", x.open(0, true), n);
        }
        most.is("open(0, true), the 9.", x.open(0, true), GuessFair.FULL).is("count(3)", x.count(3), 8);
        Sentence.of(18, "(envelope -1: none then, 0, whatever the other is)")
            .is("open(-1, true), of eight", x.open(-1, true), 0)
            .is("count(3)", x.count(3), 0)
            .is("left()", x.left(), 1)
            .is("open(-1, false), of none", x.open(-1, false), 0)
            .is("open(0, false) then", x.open(0, false), 1)
            .is("left() then", x.left(), 0)
            .is("open(-1, false), of one", x.open(-1, false), 0)
            .is("count(3)", x.count(3), 0)
            .is("no envelopes: open(-1, true)", new GuessFair().open(-1, true), 0);
        Sentence none = Sentence.of(18, "NONE;");
        for (int n : new int[] {-2, 3, 8, LEAST, GREATEST}) {
            none.refuses("open(" + n + ", true)", GuessFair.NONE, y -> y.open(n, true));
            none.refuses("open(" + n + ", false)", GuessFair.NONE, y -> y.open(n, false));
        }
        String when = "eight opened, ";
        Sentence.of(18, "FULL: 8")
            .refuses(when, QuestionBoundaries::eightOpened, "open(0, true)", GuessFair.FULL, y -> y.open(0, true))
            .refuses(when, QuestionBoundaries::eightOpened, "open(0, false)", GuessFair.FULL, y -> y.open(0, false));
        Sentence.of(18, "the first that a call's words name")
            .refuses(when, QuestionBoundaries::eightOpened, "open(3, true)", GuessFair.NONE, y -> y.open(3, true));
    }

    private static void left() {
        GuessFair x = new GuessFair();
        Sentence s = Sentence.of(19, "LEFT: those WORLDS, as bits, where all of OPENED is so.");
        s.is("no worlds: left()", x.left(), 0);
        x.envelope(0, 0, 0, 0);
        x.open(0, false);
        s.is("no worlds, 0 is false: left()", x.left(), 0);
        x = Due.fair(1, 1, 1, 1, 1, 1);
        s.is("nothing opened: left()", x.left(), 63);
        x.envelope(0, 0, 0, 0);
        x.envelope(0, 0, 63, 0);
        x.envelope(0, 0, 33, 0);
        x.open(0, false);
        x.open(1, true);
        s.is("none is false, all is true: left()", x.left(), 63);
        x.open(2, true);
        s.is("the first and the last: left()", x.left(), 33);
        x.open(2, false);
        s.is("true and false: left()", x.left(), 0);
        x.open(-1, true);
        x.open(0, true);
        s.is("none is true: left()", x.left(), 0);
        x.open(-1, true);
        for (int n = 0; n < 8; n++) {
            x.open(n == 7 ? 2 : 1, true);
        }
        s.is("the eighth counts: left()", x.left(), 33);
    }

    private static void odds() {
        GuessFair x = new GuessFair();
        x.envelope(0, 0, 0, 0);
        Sentence no = Sentence.of(20, "(NO: none is LEFT)")
            .is("no worlds: odds(0, 0)", x.odds(0, 0), GuessFair.NO)
            .is("no worlds: odds(0, 1)", x.odds(0, 1), GuessFair.NO);
        x.world(30);
        x.world(20);
        x.envelope(0, 0, 1, 0);
        x.envelope(0, 0, 3, 0);
        Sentence s = Sentence.of(20, "by CHANCES of all WORLDS LEFT, together: a fraction in lowest terms")
            .is("0 / 50: odds(0, 0)", x.odds(0, 0), 0).is("0 / 50: odds(0, 1)", x.odds(0, 1), 1)
            .is("30 / 50: odds(1, 0)", x.odds(1, 0), 3).is("30 / 50: odds(1, 1)", x.odds(1, 1), 5)
            .is("50 / 50: odds(2, 0)", x.odds(2, 0), 1).is("50 / 50: odds(2, 1)", x.odds(2, 1), 1);
        GuessFair least = Due.fair(1);
        least.envelope(0, 0, 1, 0);
        s.is("the least chance, 1 / 1: odds(0, 0)", least.odds(0, 0), 1).is("the least chance, 1 / 1: odds(0, 1)", least.odds(0, 1), 1);
        x.open(1, false);
        s.is("0 / 20: odds(1, 0)", x.odds(1, 0), 0).is("0 / 20: odds(1, 1)", x.odds(1, 1), 1);
        x.open(0, true);
        no.is("0 is true: odds(2, 0)", x.odds(2, 0), GuessFair.NO).is("0 is true: odds(2, 1)", x.odds(2, 1), GuessFair.NO);
        Sentence none = Sentence.of(20, "NO.");
        for (int n : new int[] {-1, 3, 8, LEAST, GREATEST}) {
            none.refuses("odds(" + n + ", 0)", GuessFair.NO, y -> y.odds(n, 0));
            none.refuses("nothing opened, ", y -> y.open(-1, true), "odds(" + n + ", 1)", GuessFair.NO, y -> y.odds(n, 1));
        }
        for (int part : new int[] {-1, 2, LEAST, GREATEST}) {
            none.refuses("nothing opened, ", y -> y.open(-1, true), "odds(0, " + part + ")", GuessFair.NO, y -> y.odds(0, part));
        }
    }

    private static void knew() {
        GuessFair x = new GuessFair();
        Sentence s = Sentence.of(21, "that are TRUE in all WORLDS LEFT (none is LEFT: 0)").is("nothing at all: knew()", x.knew(), 0);
        x.envelope(0, 0, 0, 0);
        s.is("no worlds: knew()", x.knew(), 0);
        x.world(1);
        x.world(1);
        for (int n = 1; n < 8; n++) {
            x.envelope(0, 0, n % 4, 0);
        }
        s.is("nothing opened: knew()", x.knew(), 8 + 128);
        x.open(1, true);
        s.is("one world is left: knew()", x.knew(), 2 + 8 + 32 + 128);
        x.say(0, 1);
        s.is("the first too: knew()", x.knew(), 1 + 2 + 8 + 32 + 128);
        x.open(2, true);
        s.is("none is left: knew()", x.knew(), 0);
    }

    private static void bestEnds() {
        GuessFair x = new GuessFair();
        x.envelope(0, 9, 0, 0);
        Sentence s = Sentence.of(22, "BEST of an ENVELOPE: the SAYING (0 .. all bits of WORLDS) by which, did it have that")
            .is("no worlds: best(0, 0)", x.best(0, 0), 0)
            .is("no worlds: best(0, 1)", x.best(0, 1), 0);
        x.world(30);
        s.is("one world: best(0, 0)", x.best(0, 0), 1).is("one world: best(0, 1)", x.best(0, 1), 2700);
        for (int w = 1; w < 6; w++) {
            x.world(30);
        }
        s.is("six worlds: best(0, 0)", x.best(0, 0), 63).is("six worlds: best(0, 1)", x.best(0, 1), 2700 * 6);
        Due.law(x, "base 0;more 2 s=0");
        s.is("none is best: best(0, 0)", x.best(0, 0), 0).is("none is best: best(0, 1)", x.best(0, 1), 2 * 180);
        Due.law(x, "base 0;more 3 s=1&w=5;more 99 s=6");
        s.is("all is best: best(0, 0)", x.best(0, 0), 63).is("all is best: best(0, 1)", x.best(0, 1), 99 * 180);
        s.is("the saying stays: of(0, 2)", x.of(0, 2), 0);
    }

    private static void bestTies() {
        GuessFair x = Due.fair(5, 7, 7, 3);
        x.envelope(0, 0, 15, 0);
        x.envelope(2, 1, 15, 0);
        Sentence s = Sentence.of(22, "times CHANCE, together, is most (of several the least as bits): the SAYING; that sum.");
        s.is("nothing is paid: best(0, 0)", x.best(0, 0), 0).is("nothing is paid: best(0, 1)", x.best(0, 1), 0);
        s.is("two alike: best(1, 0)", x.best(1, 0), 2).is("two alike: best(1, 1)", x.best(1, 1), 280);
        Due.law(x, "base 0;more 4 s>2");
        s.is("those of three and more: best(0, 0)", x.best(0, 0), 7).is("those of three and more: best(0, 1)", x.best(0, 1), 88);
    }

    private static void bestRefusals() {
        Sentence none = Sentence.of(22, "NONE");
        for (int n : new int[] {-1, 3, 8, LEAST, GREATEST}) {
            none.refuses("best(" + n + ", 0)", GuessFair.NONE, x -> x.best(n, 0));
        }
        for (int what : new int[] {-1, 2, LEAST, GREATEST}) {
            none.refuses("best(0, " + what + ")", GuessFair.NONE, x -> x.best(0, what));
        }
        none.is("no envelopes: best(0, 0)", Due.fair(1).best(0, 0), GuessFair.NONE);
    }

    private static void safest() {
        GuessFair x = new GuessFair();
        Sentence s = Sentence.of(23, "SAFEST: the set of ENVELOPES (also of none) whose LEAST is greatest");
        s.is("nothing at all: safest(0)", x.safest(0), 0).is("nothing at all: safest(1)", x.safest(1), 0);
        x.envelope(5, 1, 0, 11);
        s.is("no worlds: safest(0)", x.safest(0), 0).is("no worlds: safest(1)", x.safest(1), 0);
        x.world(1);
        s.is("none is safest: safest(0)", x.safest(0), 0).is("none is safest: safest(1)", x.safest(1), 0);
        x.price(0, 9);
        s.is("one alone: safest(0)", x.safest(0), 1).is("one alone: safest(1)", x.safest(1), 1);
        for (int n = 1; n < 8; n++) {
            x.envelope(5, 1, 0, 9);
        }
        s.is("all eight: safest(0)", x.safest(0), 255).is("all eight: safest(1)", x.safest(1), 8);
        Sentence ties = Sentence.of(23, "is greatest (of several the least as bits): the set; that LEAST.");
        for (int n = 0; n < 8; n++) {
            x.price(n, n == 6 ? 9 : 10);
        }
        ties.is("others gain nothing: safest(0)", x.safest(0), 64).is("others gain nothing: safest(1)", x.safest(1), 1);
        x.price(6, 10);
        ties.is("all gain nothing: safest(0)", x.safest(0), 0).is("all gain nothing: safest(1)", x.safest(1), 0);
        Sentence none = Sentence.of(23, "-100001: NONE");
        for (int what : new int[] {-1, 2, LEAST, GREATEST}) {
            none.refuses("safest(" + what + ")", NO_GAIN, y -> y.safest(what));
        }
        none.is("no worlds: safest(2)", new GuessFair().safest(2), NO_GAIN);
    }

    private static void sure() {
        GuessFair x = new GuessFair();
        Sentence s = Sentence.of(24, "SURE: the least set, as bits, whose LEAST is above 0 (0: there is none).");
        s.is("nothing at all: sure()", x.sure(), 0);
        x.envelope(5, 1, 0, 9);
        s.is("no worlds: sure()", x.sure(), 0);
        x.world(1);
        s.is("a least of 1: sure()", x.sure(), 1);
        x.price(0, 10);
        s.is("a least of 0: sure()", x.sure(), 0);
        x.price(0, 11);
        s.is("a least of -1: sure()", x.sure(), 0);
        for (int n = 1; n < 8; n++) {
            x.envelope(5, 1, 0, n == 7 ? 9 : 11);
        }
        s.is("the last alone: sure()", x.sure(), 128);
        x.price(2, 9);
        s.is("the least of several: sure()", x.sure(), 4);
        x = Due.fair(1, 1);
        for (int n = 0; n < 8; n++) {
            x.envelope(0, 1, 1 + n % 2, 4);
        }
        s.is("two of several: sure()", x.sure(), 3);
    }
}
