/** Promises 9 and 10, and the laws of part 1: feed, law, what a law holds for. */
public final class LawsTest {
    public static void main(String[] args) {
        signs();
        numbersOfLaws();
        faults();
        eachSignAtEachPlace();
        nesting();
        clauses();
        longestText();
        longLaws();
        bases();
        letters();
        joints();
        extras();
        Due.end();
    }

    private static void signs() {
        GuessFair x = new GuessFair();
        Due.is("9: feed(-1)", x.feed(-1), GuessFair.BAD);
        Due.is("9: feed(128)", x.feed(128), GuessFair.BAD);
        for (int n = 1; n <= 100; n++) {
            Due.is("9: feed, the " + n + ".", x.feed(n == 1 ? 0 : 127), n);
        }
        Due.is("9: feed, the 101st", x.feed(1), GuessFair.FULL);
        Due.is("9: feed, the 101st, bad", x.feed(128), GuessFair.BAD);
        Due.is("9: count(5)", x.count(5), 100);
        Due.is("10: law of such signs", x.law(), -10);
        Due.is("10: the text is empty then", x.count(5), 0);
    }

    private static void numbersOfLaws() {
        GuessFair x = new GuessFair();
        for (int n = 0; n < 6; n++) {
            Due.isLaw(x, "base " + n, n);
            Due.is("10: text after a law", x.count(5), 0);
            Due.is("10: laws", x.count(2), n + 1);
            Due.is("10: the newest holds", x.told(2), n);
            if (n < 5) {
                Due.isLaw(x, "base", -14);
                Due.is("10: the one that held holds", x.told(2), n);
            }
        }
        Due.isLaw(x, "base 7", GuessFair.FULL);
        Due.is("10: the text stays", x.count(5), 6);
        Due.isLaw(x, "!", GuessFair.FULL);
        Due.is("10: the text stays", x.count(5), 7);
        Due.is("10: the sixth holds", x.told(2), 5);
    }

    /** Each prefix of a law that is none itself is at fault where it ends; a sign that fits nowhere at its place. */
    private static void faults() {
        String law = "more 12 !(e<1&k=23|s>3)&w=4;tax 5 c>6|d<7;base 89";
        for (int n = 0; n < law.length(); n++) {
            boolean isWhole = n == 23 || n == 27 || n == 37 || n == 41 || n == 48;
            GuessFair x = new GuessFair();
            Due.isLaw(x, law.substring(0, n), isWhole ? 0 : -10 - n);
            x = new GuessFair();
            Due.isLaw(x, law.substring(0, n) + "?" + law.substring(n), -10 - n);
        }
        String[] texts = {"", "mare 1 e=1", "tux 1 e=1", "bass", "Base 1", " base 1", "base  1", "base 1 ", "base 123",
            "base 1 e=1", "base 1;", "base 1;;base 1", "base x", "more 1", "more 1 ", "more 1  e=1", "more 123 e=1",
            "tax 1 e", "tax 1 e=", "tax 1 e=x", "tax 1 e=123", "tax 1 x=1", "tax 1 e!1", "tax 1 e==1", "tax 1 e=1)",
            "tax 1 (e=1", "tax 1 ()", "tax 1 e=1&", "tax 1 e=1&&e=1", "tax 1 e=1||e=1", "tax 1 e=1|&e=1", "tax 1 e=1 &e=1",
            "tax 1 !", "tax 1 e=1!e=1", "tax 1 (e=1)e=1", "more  1 e=1", "tax 1e=1", "more 1 1=e"};
        int[] places = {0, 1, 1, 3, 0, 0, 5, 6, 7, 6, 7, 7, 5, 6, 7, 7, 7, 7, 8, 8, 10, 6, 7, 8, 9,
            10, 7, 10, 10, 10, 10, 9, 7, 9, 11, 5, 5, 7};
        for (int n = 0; n < texts.length; n++) {
            Due.isLaw(new GuessFair(), texts[n], -10 - places[n]);
        }
    }

    private static void eachSignAtEachPlace() {
        String law = "more 1 !(e<1&k=23)|s>3;tax 15 c=6;base 89";
        for (int at = 0; at < law.length(); at++) {
            for (char sign = 0; sign < 128; sign++) {
                String text = law.substring(0, at) + sign + law.substring(at + 1);
                Model m = new Model();
                for (int n = 0; n < text.length(); n++) {
                    m.feed(text.charAt(n));
                }
                Due.is("10: sign " + (int) sign + " at place " + at, Due.law(new GuessFair(), text), m.law());
            }
        }
    }

    private static void nesting() {
        Due.isLaw(new GuessFair(), "more 1 ((((e=1))))", 0);
        Due.isLaw(new GuessFair(), "more 1 (((((e=1)))))", -21);
        Due.isLaw(new GuessFair(), "more 1 !!!!e=1", 0);
        Due.isLaw(new GuessFair(), "more 1 !!!!!e=1", -21);
        Due.isLaw(new GuessFair(), "more 1 !(!(e=1))", 0);
        Due.isLaw(new GuessFair(), "more 1 !(!((e=1)))", -21);
        Due.isLaw(new GuessFair(), "more 1 (!(!!e=1))", -21);
        Due.isLaw(new GuessFair(), "more 1 !!(!e=1&!e=2|(e=3))&!!!!e=4", 0);
        Due.isLaw(new GuessFair(), "more 1 !!(!e=1&!!e=2)", -26);
        Due.isLaw(new GuessFair(), "more 1 ((((e=1&e=2|e=3))))|((((e=4))))", 0);
        Due.isLaw(new GuessFair(), "more 1 ((((e=1)))))", -28);
    }

    private static void clauses() {
        StringBuilder text = new StringBuilder("base 1");
        for (int n = 1; n < 10; n++) {
            text.append(";base ").append(n);
        }
        GuessFair x = new GuessFair();
        Due.isLaw(x, text.toString(), 0);
        Due.is("law of 10 clauses: BASE", x.told(2), 9);
        Due.isLaw(x, text + ";", -10 - text.length());
        Due.isLaw(x, text + ";base 1", -10 - text.length());
        Due.is("count(2)", x.count(2), 1);
    }

    private static void longestText() {
        StringBuilder text = new StringBuilder("more 01 e=0");
        while (text.length() + 4 <= 100) {
            text.append("&w=0");
        }
        Due.is("signs of the text, one below the most", text.length(), 99);
        GuessFair x = Due.fair(1, 1);
        x.envelope(0, 0, 0, 0);
        Due.isLaw(x, text + "0", 0);
        Due.pays("a law of 100 signs", x, 0, 1, 0);
        Due.isLaw(x, text + "&", -110);
        Due.is("a law of 100 signs that ends too early: count(2)", x.count(2), 1);
    }

    /** Long laws, one behind the other: what one leaves would be seen in the next. */
    private static void longLaws() {
        GuessFair x = Due.fair(1, 1);
        x.envelope(0, 0, 0, 0);
        for (int n = 0; n < 3; n++) {
            StringBuilder text = new StringBuilder("more 1" + n + " w=0");
            for (int m = 0; m < 18; m++) {
                text.append("|w>1");
            }
            Due.isLaw(x, text + ";tax 1 w<1", n);
            Due.pays("long law " + n, x, 0, 9 + n, 0);
            Due.isLaw(x, "more 5 e<9|e<9&e<9|", -29);
            Due.pays("long law " + n + " after a fault", x, 0, 9 + n, 0);
        }
        Due.isLaw(x, "more 3 w=1", 3);
        Due.pays("a short law after long ones", x, 0, 0, 3);
    }

    private static void bases() {
        GuessFair x = Due.fair(1);
        x.envelope(0, 3, 1, 0);
        Due.pays("no law", x, 0, 30);
        Due.isLaw(x, "more 1 e=0", 0);
        Due.is("BASE without a base", x.told(2), 10);
        Due.pays("more 1", x, 0, 31);
        Due.isLaw(x, "base 99;more 1 e=0;base 7", 1);
        Due.is("BASE, the last one's", x.told(2), 7);
        Due.pays("base 7", x, 0, 22);
        Due.isLaw(x, "base 00", 2);
        Due.is("BASE 0", x.told(2), 0);
        Due.pays("base 0: what was more before holds no more", x, 0, 0);
    }

    /** Envelope 1 is rare, says worlds 0 and 2, and is 3 days old; worlds have chances 5, 6 and 7. */
    private static GuessFair fairOfTwo() {
        GuessFair x = Due.fair(5, 6, 7);
        x.envelope(0, 0, 0, 0);
        x.envelope(2, 0, 5, 0);
        x.pass(3);
        return x;
    }

    private static void letters() {
        String[] tests = {"e=1", "e<1", "e>0", "k=2", "k<2", "k>1", "s=2", "s<2", "s>2", "w=1", "w<1", "w>1",
            "c=6", "c<6", "c>6", "d=3", "d<3", "d>3", "d=03", "w<2", "c>05"};
        int[][] wants = {{1, 1, 1}, {0, 0, 0}, {1, 1, 1}, {1, 1, 1}, {0, 0, 0}, {1, 1, 1}, {1, 1, 1}, {0, 0, 0}, {0, 0, 0},
            {0, 1, 0}, {1, 0, 0}, {0, 0, 1}, {0, 1, 0}, {1, 0, 0}, {0, 0, 1}, {1, 1, 1}, {0, 0, 0}, {0, 0, 0},
            {1, 1, 1}, {1, 1, 0}, {0, 1, 1}};
        for (int n = 0; n < tests.length; n++) {
            GuessFair x = fairOfTwo();
            Due.law(x, "more 1 " + tests[n]);
            Due.pays(tests[n], x, 1, wants[n]);
        }
        GuessFair x = Due.fair(1);
        x.pass(50);
        x.envelope(0, 0, 0, 0);
        Due.law(x, "more 1 d=99;more 2 d>98;more 4 d<99");
        x.pass(98);
        Due.pays("98 days", x, 0, 4);
        x.pass(1);
        Due.pays("99 days", x, 0, 3);
        x.pass(99);
        Due.pays("198 days: 99 at most", x, 0, 3);
    }

    /** | binds least, ! most, and brackets bind as told. */
    private static void joints() {
        String[] tests = {"w=0|w=1&w=2", "(w=0|w=1)&w=2", "w=2&w=1|w=0", "w=2&(w=1|w=2)", "!w=0&w<2", "!(w=0&w<2)",
            "!w=0|w=0", "!!w=1", "!!!w=1", "!(w=0|w=1)", "w=0|w=1|w=2", "w>0&w<2&e=1", "!w=0&!w=2", "(!w=0)&(!(w=2))",
            "w=0|!(w=1|!(w=2))", "w=0&w=1|w=2&w>1|w=1&w=0"};
        int[][] wants = {{1, 0, 0}, {0, 0, 0}, {1, 0, 0}, {0, 0, 1}, {0, 1, 0}, {0, 1, 1},
            {1, 1, 1}, {0, 1, 0}, {1, 0, 1}, {0, 0, 1}, {1, 1, 1}, {0, 1, 0}, {0, 1, 0}, {0, 1, 0},
            {1, 0, 1}, {0, 0, 1}};
        for (int n = 0; n < tests.length; n++) {
            GuessFair x = fairOfTwo();
            Due.law(x, "more 1 " + tests[n]);
            Due.pays(tests[n], x, 1, wants[n]);
        }
    }

    private static void extras() {
        GuessFair x = Due.fair(1, 1, 1);
        x.envelope(0, 2, 3, 0);
        Due.law(x, "more 30 w=0;tax 5 w<2;more 7 w<2;tax 99 w=1;tax 1 w=2;more 3 w=2");
        Due.pays("EXTRA", x, 0, 52, 0, 2);
        Due.law(x, "base 1");
        Due.pays("the newest law alone holds", x, 0, 2, 2, 0);
        Due.law(x, "tax 99 w=5;more 1 w=0");
        Due.pays("a clause that does not hold", x, 0, 21, 20, 0);
    }
}
