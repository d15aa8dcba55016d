/** Promises 35 and 36: image, undo. */
public final class ImageTest {
    public static void main(String[] args) {
        allComesBack();
        whatStays();
        worldsAndEnvelopesGo();
        aLawGoes();
        Due.end();
    }

    private static GuessFair fair() {
        GuessFair x = Due.fair(4, 6);
        x.pass(10);
        x.envelope(6, 2, 1, 30);
        x.row(0, 3, 7);
        x.envelope(3, 5, 2, 40);
        x.open(0, true);
        x.open(1, false);
        x.book(0, 0, 20);
        Due.law(x, "base 9");
        x.come(0);
        return x;
    }

    private static void isAsFair(String when, GuessFair x) {
        Due.is(when + ": count(0)", x.count(0), 2);
        Due.is(when + ": count(1)", x.count(1), 2);
        Due.is(when + ": count(3)", x.count(3), 2);
        Due.is(when + ": count(4)", x.count(4), 1);
        int[] told = {11, 18, 9, 10};
        for (int what = 0; what < 4; what++) {
            Due.is(when + ": told(" + what + ")", x.told(what), told[what]);
        }
        Due.is(when + ": told(10)", x.told(10), 4);
        Due.is(when + ": told(11)", x.told(11), 6);
        int[][] of = {{6, 2, 1, 30, 1}, {3, 5, 2, 40, 1}};
        for (int n = 0; n < 10; n++) {
            Due.is(when + ": of(" + n / 5 + ", " + n % 5 + ")", x.of(n / 5, n % 5), of[n / 5][n % 5]);
        }
        Due.pays(when, x, 0, 24, 7);
        Due.pays(when, x, 1, 0, 44);
        Due.is(when + ": left()", x.left(), 1);
        Due.is(when + ": looked()", x.looked(), 0);
    }

    private static void allComesBack() {
        GuessFair x = fair();
        Due.is("36: undo() without an image", x.undo(), GuessFair.STATE);
        isAsFair("36: after that", x);
        Due.is("35: image()", x.image(), 2);
        isAsFair("35: after image()", x);
        for (int n = 0; n < 2; n++) {
            x.chance(0, 30);
            x.world(7);
            x.envelope(0, 1, 4, 1);
            x.price(0, 1);
            x.say(0, 7);
            x.row(0, 3, 1);
            x.row(0, 0, 1);
            x.pass(20);
            x.come(2);
            x.open(-1, true);
            x.open(0, false);
            x.book(-1, 0, 0);
            x.book(1, 1, 44);
            Due.law(x, "base 1");
            Due.is("36: undo(), the " + n + ".", x.undo(), 2);
            isAsFair("36: after undo()", x);
        }
        x.price(0, 31);
        Due.is("35: image() anew", x.image(), 2);
        x.price(0, 32);
        x.undo();
        Due.is("36: undo() to the newest image", x.of(0, 3), 31);
    }

    private static void whatStays() {
        GuessFair x = fair();
        x.image();
        Due.law(x, "base 1");
        x.feed('b');
        x.tape(0, 2, 3);
        x.item(0, 1, 5);
        x.act(0, 0, 1);
        int ran = x.count(6);
        int first = x.trace(0);
        x.undo();
        Due.is("36: laws stay", x.count(2), 2);
        Due.is("36: the text stays", x.count(5), 1);
        Due.is("36: tapes stay", x.read(0, 1), 5);
        Due.is("36: the trace stays, all", x.count(6), ran);
        Due.is("36: the trace stays, the first", x.trace(0), first);
        Due.is("36: the law that held holds", x.told(2), 9);
        x.feed('a');
        Due.isLaw(x, "se 3", 2);
        Due.is("36: the newest law holds then", x.told(2), 3);
    }

    private static void worldsAndEnvelopesGo() {
        GuessFair x = new GuessFair();
        Due.is("35: image() of nothing", x.image(), 0);
        x.world(3);
        x.envelope(6, 1, 1, 5);
        x.row(0, 0, 9);
        x.row(0, 3, 8);
        x.open(0, true);
        x.book(0, 0, 1);
        Due.is("36: undo() to nothing", x.undo(), 0);
        for (int what = 0; what < 5; what++) {
            Due.is("36: count(" + what + ") then", x.count(what), 0);
        }
        Due.is("36: pay(0, 0) then", x.pay(0, 0), GuessFair.NONE);
        Due.is("36: told(10) then", x.told(10), GuessFair.NONE);
        Due.is("36: world(2) then", x.world(2), 0);
        Due.is("36: envelope(6, ..) then", x.envelope(6, 1, 1, 5), 0);
        Due.is("4: the row is 0 at first, part 0", x.row(0, 0, 1), 0);
        Due.is("4: the row is 0 at first, part 3", x.row(0, 3, 1), 0);
    }

    private static void aLawGoes() {
        GuessFair x = Due.fair(1);
        x.envelope(0, 1, 1, 0);
        x.image();
        Due.isLaw(x, "base 5;more 2 w=0", 0);
        Due.pays("36: a law holds", x, 0, 7);
        x.undo();
        Due.is("36: no law holds then: BASE", x.told(2), 10);
        Due.pays("36: no law holds then", x, 0, 10);
        Due.is("36: but there is one", x.count(2), 1);
        Due.isLaw(x, "base", -14);
        Due.pays("36: no law holds still", x, 0, 10);
    }
}
