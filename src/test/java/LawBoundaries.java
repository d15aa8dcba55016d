/** Promises 9 and 10, and the words of part 1 about laws: the sentences that name a boundary case. */
final class LawBoundaries {
    private static final int LEAST = Integer.MIN_VALUE, GREATEST = Integer.MAX_VALUE;

    private LawBoundaries() {
    }

    static void all() {
        Sentence.each(
            LawBoundaries::signs, LawBoundaries::fullText, LawBoundaries::emptyThen, LawBoundaries::sixLaws,
            LawBoundaries::faultsKeepTheLaw, LawBoundaries::clauses, LawBoundaries::blanksAndDigits, LawBoundaries::tests,
            LawBoundaries::parts, LawBoundaries::nesting, LawBoundaries::firstBytes, LawBoundaries::endsTooEarly,
            LawBoundaries::newestHolds, LawBoundaries::withoutLaws, LawBoundaries::bases, LawBoundaries::extras,
            LawBoundaries::letters, LawBoundaries::signsOfTests, LawBoundaries::days);
    }

    private static Sentence law(Sentence s, String text, int want) {
        return s.is("law of \"" + text + "\"", Due.law(new GuessFair(), text), want);
    }

    /** Texts that are no laws, each with its fault. */
    private static void faults(Sentence s, String[] texts, int... places) {
        s.is("faults told", places.length, texts.length);
        for (int n = 0; n < texts.length; n++) {
            law(s, texts[n], -10 - places[n]);
        }
    }

    private static void isLaw(Sentence s, String... texts) {
        for (String text : texts) {
            law(s, text, 0);
        }
    }

    private static void signs() {
        GuessFair x = new GuessFair();
        Sentence.of(9, "A sign (0 .. 127) comes behind THE TEXT's: how many it has.")
            .is("feed(0)", x.feed(0), 1)
            .is("feed(127)", x.feed(127), 2)
            .is("count(5)", x.count(5), 2);
        Sentence bad = Sentence.of(9, "BAD");
        for (int sign : new int[] {-1, 128, 255, 256 + 'b', LEAST, GREATEST}) {
            bad.refuses("feed(" + sign + ")", GuessFair.BAD, y -> y.feed(sign));
        }
    }

    private static void fullText() {
        GuessFair x = new GuessFair();
        Sentence most = Sentence.of(9, "THE TEXT (bytes, 100 at most)");
        for (int n = 1; n <= 100; n++) {
            most.is("feed, the " + n + ".", x.feed('b'), n);
        }
        most.is("feed, the 101st", x.feed('b'), GuessFair.FULL).is("count(5)", x.count(5), 100);
        Sentence.of(9, "FULL").refuses("a full text, ", LawBoundaries::fill, "feed(49)", GuessFair.FULL, y -> y.feed('1'));
        Sentence.of(9, "the first that a call's words name")
            .refuses("a full text, ", LawBoundaries::fill, "feed(128)", GuessFair.BAD, y -> y.feed(128));
    }

    private static void fill(GuessFair x) {
        for (int n = 6; n < 100; n++) {
            x.feed(n == 6 ? ';' : 'b');
        }
    }

    private static void emptyThen() {
        GuessFair x = new GuessFair();
        Sentence empty = Sentence.of(10, "THE TEXT, which is empty then, is a LAW, and holds: its number.");
        empty.is("law of \"base 1\"", Due.law(x, "base 1"), 0).is("count(5)", x.count(5), 0);
        empty.is("feed(98)", x.feed('b'), 1).is("law of \"base 2\"", Due.law(x, "ase 2"), 1);
        empty.is("law of \"base\"", Due.law(x, "base"), -14).is("count(5) after a fault", x.count(5), 0);
        empty.is("law of nothing", x.law(), -10).is("count(5)", x.count(5), 0);
        empty.is("law of \"base 3\"", Due.law(x, "base 3"), 2).is("told(2)", x.told(2), 3);
    }

    private static void sixLaws() {
        GuessFair x = new GuessFair();
        Sentence full = Sentence.of(10, "FULL: there are 6 (THE TEXT stays)");
        for (int n = 0; n < 6; n++) {
            full.is("law, the " + (n + 1) + ".", Due.law(x, "base " + n), n);
        }
        full.is("law, the seventh", Due.law(x, "base 7"), GuessFair.FULL)
            .is("count(5), the text stays", x.count(5), 6)
            .is("law, the seventh, once more", x.law(), GuessFair.FULL)
            .is("feed(49) behind it", x.feed('1'), 7)
            .is("count(2)", x.count(2), 6)
            .is("told(2), the sixth holds", x.told(2), 5);
        full.refuses("six laws, ", LawBoundaries::fourMore, "law()", GuessFair.FULL, y -> y.law());
        Sentence first = Sentence.of(10, "the first that a call's words name");
        first.refuses("six laws and a fault, ", y -> {
            fourMore(y);
            y.feed('?');
        }, "law()", GuessFair.FULL, y -> y.law());
        x = new GuessFair();
        for (int n = 0; n < 6; n++) {
            Due.law(x, "base 1");
        }
        first.is("six laws and no text: law()", x.law(), GuessFair.FULL);
    }

    private static void fourMore(GuessFair x) {
        x.law();
        for (int n = 0; n < 3; n++) {
            Due.law(x, "base 2");
        }
        Due.feed(x, "base 3");
    }

    private static void faultsKeepTheLaw() {
        GuessFair x = Due.fair(1);
        x.envelope(0, 1, 1, 0);
        Sentence holds = Sentence.of(10, "-10 less the FAULT (the one that held holds)");
        holds.is("law of \"base 5;more 1 w=\"", Due.law(x, "base 5;more 1 w="), -26)
            .is("told(2), none held", x.told(2), 10)
            .is("pay(0, 0)", x.pay(0, 0), 10)
            .is("count(2)", x.count(2), 0);
        Due.law(x, "base 7;more 2 w=0");
        holds.is("law of \"base 5;more 1 w=0|\"", Due.law(x, "base 5;more 1 w=0|"), -28)
            .is("told(2)", x.told(2), 7)
            .is("pay(0, 0)", x.pay(0, 0), 9)
            .is("count(2)", x.count(2), 1);
        holds.is("a law behind a fault", Due.law(x, "base 3"), 1).is("told(2)", x.told(2), 3);
    }

    private static void clauses() {
        Sentence s = Sentence.of(10, "CLAUSES, 1 to 10, with ; between");
        StringBuilder ten = new StringBuilder("base 1");
        for (int n = 1; n < 10; n++) {
            ten.append(";base ").append(n);
        }
        String nine = ten.substring(0, 62);
        isLaw(s, "base 1", "more 1 e=1", "tax 1 e=1", "base 1;base 2", nine, ten.toString());
        String[] texts = {"", ";base 1", "base 1;", "base 1;;base 1", "base 1 base 1", "base 1,base 1",
            ten + ";", ten + ";base 1", nine + ";"};
        faults(s, texts, 0, 0, 7, 7, 6, 6, 69, 69, 63);
    }

    private static void blanksAndDigits() {
        Sentence s = Sentence.of(10, "more n E; tax n E; base n (one blank ahead of each part behind the word; n 1 or 2 digits).");
        isLaw(s, "base 0", "base 00", "base 99", "more 0 e=1", "more 99 e=1", "tax 0 e=1", "tax 99 e=1");
        String[] blanks = {"base1", "base  1", " base 1", "base 1 ", "more1 e=1", "more  1 e=1", "more 1e=1", "more 1  e=1",
            "more 1 e=1 ", "more 1 e =1", "more 1 e= 1", "more 1 ( e=1)", "tax1 e=1", "tax  1 e=1", "tax 1e=1", "tax 1  e=1",
            "base 1; base 1", "base 1 ;base 1"};
        faults(s, blanks, 4, 5, 0, 6, 4, 5, 6, 7, 10, 8, 9, 8, 3, 4, 5, 6, 7, 6);
        String[] digits = {"base ", "base x", "base 100", "base 999", "more  e=1", "more e=1", "more 100 e=1", "tax e=1",
            "tax 100 e=1", "base -1", "base 1e=1", "more -1 e=1", "base /", "base :", "base 1/", "base 1:"};
        faults(s, digits, 5, 5, 7, 7, 5, 5, 7, 4, 6, 5, 6, 5, 5, 5, 6, 6);
        String[] words = {"Base 1", "mre 1 e=1", "taxx 1 e=1", "more", "tax", "base", "more 1", "more 1 ", "tax 1", "base 1 e=1"};
        faults(s, words, 0, 1, 3, 4, 3, 4, 6, 7, 5, 6);
    }

    private static void tests() {
        Sentence s = Sentence.of(10, "or a TEST: a letter, < or = or >, a number (1 or 2 digits)");
        isLaw(s, "more 1 e=0", "more 1 k<9", "more 1 s>10", "more 1 w=99", "more 1 c<00", "more 1 d>01");
        String[] texts = {"more 1 e=", "more 1 e=x", "more 1 e=100", "more 1 e", "more 1 e1", "more 1 e!1", "more 1 e<=1",
            "more 1 =1", "more 1 a=1", "more 1 ee=1", "more 1 E=1", "more 1 v=1", "more 1 e=-1", "more 1 1=e", "more 1 e=/", "more 1 e=:"};
        faults(s, texts, 9, 9, 11, 8, 8, 8, 9, 7, 7, 8, 7, 7, 9, 7, 9, 9);
    }

    private static void parts() {
        Sentence s = Sentence.of(10, "E: T or T|E. T: F or F&T. F: !F, (E)");
        isLaw(s, "more 1 e=1|e=2", "more 1 e=1&e=2", "more 1 e=1|e=2&e=3|e=4", "more 1 !e=1", "more 1 (e=1)", "more 1 (e=1|!(e=2))");
        String[] texts = {"more 1 |e=1", "more 1 e=1|", "more 1 e=1||e=1", "more 1 &e=1", "more 1 e=1&", "more 1 e=1&&e=1",
            "more 1 e=1|&e=1", "more 1 ()", "more 1 (e=1", "more 1 e=1)", "more 1 !", "more 1 e=1!", "more 1 e=1!e=1",
            "more 1 (e=1)(e=1)", "more 1 (e=1|)", "more 1 !|e=1"};
        faults(s, texts, 7, 11, 11, 7, 11, 11, 11, 8, 11, 10, 8, 10, 10, 12, 12, 8);
    }

    private static void nesting() {
        Sentence s = Sentence.of(10, "A ( or ! within 4 others is none.");
        isLaw(s, "more 1 ((((e=1))))", "more 1 !!!!e=1", "more 1 !(!(e=1))", "more 1 (((!e=1)))", "more 1 !!!(e=1)",
            "more 1 ((((e=1&e=2|e=3))))", "more 1 ((((e=1))))&!!!!e=1|((((e=1))))", "more 1 (((e=1)&((e=2)|!e=3)))",
            "more 1 ((((e=1)&(e=2))))");
        String[] texts = {"more 1 (((((e=1)))))", "more 1 !!!!!e=1", "more 1 ((((!e=1))))", "more 1 !!!!(e=1)",
            "more 1 !(!((e=1)))", "more 1 !(!(!e=1))", "more 1 (((e=1)&((e=2)|!!e=3)))",
            "more 1 ((((e=1)&((e=2)))))", "more 1 ((((", "more 1 !!!!"};
        faults(s, texts, 11, 11, 11, 11, 11, 11, 23, 17, 11, 11);
    }

    private static void firstBytes() {
        Sentence s = Sentence.of(10, "The FAULT: the place of the first byte with which none begins so");
        faults(s, new String[] {"\0", "b\0", "base 1\177", "xbase 1", "base 1;x", "bxse 1", "baxe x", "more 1 e=1;tax 1 e=x"},
            0, 1, 6, 0, 7, 1, 2, 19);
    }

    private static void endsTooEarly() {
        Sentence s = Sentence.of(10, "(the end of THE TEXT, if it ends too early)");
        String[] texts = {"", "b", "base", "base ", "base 1;", "more 1 !", "more 1 (e=1", "more 1 e=1&", "tax 1 e=1|"};
        faults(s, texts, 0, 1, 4, 5, 7, 8, 11, 11, 10);
        StringBuilder full = new StringBuilder("more 1 e=0");
        while (full.length() < 98) {
            full.append("|e=0");
        }
        s.is("signs of the text", full.length(), 98);
        law(s, full + "0", 0);
        law(s, full + "0|", -110);
        law(s, full + "|", -109);
        law(s, full + "|e", -110);
    }

    private static void newestHolds() {
        GuessFair x = Due.fair(1);
        x.envelope(0, 1, 1, 0);
        Sentence s = Sentence.of(10, "The newest LAW holds (6 at most)");
        for (int n = 0; n < 6; n++) {
            Due.law(x, "base " + (20 + n) + ";more " + n + " w=0");
            s.is("told(2), law " + n, x.told(2), 20 + n).is("pay(0, 0), law " + n, x.pay(0, 0), 20 + n + n);
        }
        Due.law(x, "base 50");
        s.is("told(2), no seventh", x.told(2), 25).is("pay(0, 0), no seventh", x.pay(0, 0), 30).is("count(2)", x.count(2), 6);
    }

    private static void withoutLaws() {
        GuessFair x = Due.fair(1);
        x.envelope(0, 3, 1, 0);
        Sentence.of(14, "without one there are no CLAUSES").is("pay(0, 0)", x.pay(0, 0), 30).is("told(2)", x.told(2), 10);
    }

    private static void bases() {
        GuessFair x = Due.fair(1);
        x.envelope(0, 9, 1, 0);
        Sentence s = Sentence.of(11, "BASE (10 without): the last one's n.").is("no law: told(2)", x.told(2), 10);
        Due.law(x, "more 1 w=5");
        s.is("a law without a base: told(2)", x.told(2), 10);
        Due.law(x, "base 0");
        s.is("base 0: told(2)", x.told(2), 0).is("base 0: pay(0, 0)", x.pay(0, 0), 0);
        Due.law(x, "base 99");
        s.is("base 99: told(2)", x.told(2), 99).is("base 99: pay(0, 0)", x.pay(0, 0), 891);
        Due.law(x, "base 3;tax 1 w=5;base 08;more 1 w=5");
        s.is("two bases: told(2)", x.told(2), 8).is("two bases: pay(0, 0)", x.pay(0, 0), 72);
        Due.law(x, "tax 1 w=5");
        s.is("a law without a base behind one with: told(2)", x.told(2), 10);
    }

    private static void extras() {
        GuessFair x = Due.fair(1, 1);
        x.envelope(0, 0, 0, 0);
        Sentence s = Sentence.of(14, "EXTRA: the n of all more whose E holds, less those of all tax, together.");
        Due.law(x, "more 99 w=0;more 99 w=0;tax 98 w=0;more 00 w=1;tax 0 w=1");
        s.is("pay(0, 0)", x.pay(0, 0), 100).is("pay(0, 1)", x.pay(0, 1), 0);
        Due.law(x, "tax 7 w=0;more 9 w<2;tax 99 w=5");
        s.is("pay(0, 0), a tax first", x.pay(0, 0), 2).is("pay(0, 1), a tax first", x.pay(0, 1), 9);
    }

    /** The least and the greatest number that each letter of a test may be. */
    private static void letters() {
        GuessFair x = Due.fair(1, 2, 3, 4, 5, 30);
        for (int e = 0; e < 8; e++) {
            x.envelope(e == 7 ? 6 : 0, 0, e == 7 ? 63 : 0, 0);
        }
        Sentence s = Sentence.of(14, "e the number of the one, k its KIND, s how many WORLDS its SAYING has, w the number of the other, c its CHANCE");
        Due.law(x, "more 1 e=7;more 2 k=6;more 4 s=6;more 8 w=5;more 16 c=30;more 32 d=0");
        s.is("the greatest: pay(7, 5)", x.pay(7, 5), 63).is("the greatest: pay(0, 0)", x.pay(0, 0), 32);
        Due.law(x, "more 1 e=0;more 2 k=0;more 4 s=0;more 8 w=0;more 16 c=1;more 32 d=0");
        s.is("the least: pay(0, 0)", x.pay(0, 0), 63).is("the least: pay(7, 5)", x.pay(7, 5), 32);
        Due.law(x, "more 1 e<0;more 2 k<0;more 4 s<0;more 8 w<0;more 16 c<1;more 32 d<0");
        s.is("below the least: pay(0, 0)", x.pay(0, 0), 0);
        Due.law(x, "more 1 w=0&!e<0;more 2 w=0&!d>99;more 4 e<0|w=0;more 8 w=0|e<0;more 16 w=0&e<0");
        s.is("not below the least: pay(0, 0)", x.pay(0, 0), 15).is("not below the least: pay(0, 1)", x.pay(0, 1), 0);
        Due.law(x, "more 1 e>7;more 2 k>6;more 4 s>6;more 8 w>5;more 16 c>30;more 32 d>0");
        s.is("above the greatest: pay(7, 5)", x.pay(7, 5), 0);
    }

    private static void signsOfTests() {
        GuessFair x = Due.fair(1, 1, 1, 1, 1);
        x.envelope(0, 0, 0, 0);
        Sentence s = Sentence.of(14, "of an ENVELOPE and a WORLD e the number of the one");
        Due.law(x, "more 1 w<2;more 2 w=2;more 4 w>2;more 8 w<02;more 16 w<99;more 32 w>99");
        int[] wants = {25, 25, 18, 20, 20};
        for (int w = 0; w < 5; w++) {
            s.is("pay(0, " + w + ")", x.pay(0, w), wants[w]);
        }
    }

    private static void days() {
        GuessFair x = Due.fair(1);
        x.pass(9);
        x.envelope(0, 0, 0, 0);
        Due.law(x, "more 1 d=0;more 2 d<99;more 4 d=99;more 8 d>98;more 16 d>99;more 32 d=98");
        Sentence s = Sentence.of(14, "d how many DAYS the ENVELOPE is old (99 at most)").is("0 days: pay(0, 0)", x.pay(0, 0), 3);
        x.pass(98);
        s.is("98 days: pay(0, 0)", x.pay(0, 0), 34);
        x.pass(1);
        s.is("99 days: pay(0, 0)", x.pay(0, 0), 12);
        x.pass(1);
        s.is("100 days: pay(0, 0)", x.pay(0, 0), 12);
        x.pass(99);
        s.is("199 days: pay(0, 0)", x.pay(0, 0), 12);
    }
}
