/** Promises 1 to 8: a new object, world, chance, envelope, of, price, say, row. */
public final class WorldsTest {
    public static void main(String[] args) {
        newObject();
        worlds();
        chances();
        envelopes();
        envelopeRefusals();
        ofAnEnvelope();
        prices();
        sayings();
        rows();
        Due.end();
    }

    private static void newObject() {
        GuessFair x = new GuessFair();
        for (int what = 0; what <= 6; what++) {
            Due.is("1: count(" + what + ")", x.count(what), 0);
        }
        Due.is("1: told(2)", x.told(2), 10);
        Due.is("1: undo()", x.undo(), GuessFair.STATE);
        Due.is("1: trace(0)", x.trace(0), GuessFair.NONE);
        Due.is("1: of(0, 0)", x.of(0, 0), GuessFair.NONE);
        Due.is("1: chance(0, 1)", x.chance(0, 1), GuessFair.NONE);
        for (int tape = 0; tape < 6; tape++) {
            Due.is("1: read(" + tape + ", 0)", x.read(tape, 0), GuessFair.NO);
        }
    }

    private static void worlds() {
        GuessFair x = new GuessFair();
        Due.is("2: world(0)", x.world(0), GuessFair.BAD);
        Due.is("2: world(31)", x.world(31), GuessFair.BAD);
        Due.is("2: world(-1)", x.world(-1), GuessFair.BAD);
        Due.is("2: none came", x.count(1), 0);
        int[] chances = {1, 30, 2, 3, 4, 5};
        for (int w = 0; w < 6; w++) {
            Due.is("2: world(" + chances[w] + ")", x.world(chances[w]), w);
            Due.is("2: told(1" + w + ")", x.told(10 + w), chances[w]);
        }
        Due.is("2: a seventh", x.world(1), GuessFair.FULL);
        Due.is("2: a seventh, bad", x.world(0), GuessFair.BAD);
        Due.is("2: count(1)", x.count(1), 6);
    }

    private static void chances() {
        GuessFair x = Due.fair(10, 20);
        Due.is("3: chance(1, 30)", x.chance(1, 30), 20);
        Due.is("3: chance(1, 1)", x.chance(1, 1), 30);
        Due.is("3: chance(2, 0)", x.chance(2, 0), GuessFair.NONE);
        Due.is("3: chance(-1, 5)", x.chance(-1, 5), GuessFair.NONE);
        Due.is("3: chance(0, 0)", x.chance(0, 0), GuessFair.BAD);
        Due.is("3: chance(0, 31)", x.chance(0, 31), GuessFair.BAD);
        Due.is("3: told(10)", x.told(10), 10);
        Due.is("3: told(11)", x.told(11), 1);
    }

    private static void envelopes() {
        GuessFair x = Due.fair(1, 1, 1, 1, 1, 1);
        for (int n = 0; n < 8; n++) {
            Due.is("4: envelope " + n, x.envelope(n % 7, 9, 63, 99), n);
        }
        Due.is("4: a ninth", x.envelope(0, 0, 0, 0), GuessFair.FULL);
        Due.is("4: a ninth, bad", x.envelope(0, 10, 0, 0), GuessFair.BAD);
        Due.is("4: a ninth of no kind", x.envelope(7, 10, 0, 0), GuessFair.NONE);
        Due.is("4: count(0)", x.count(0), 8);
    }

    private static void envelopeRefusals() {
        GuessFair x = Due.fair(1, 1, 1);
        Due.is("4: kind 7", x.envelope(7, 10, 8, 100), GuessFair.NONE);
        Due.is("4: kind -1", x.envelope(-1, 0, 0, 0), GuessFair.NONE);
        Due.is("4: v 10", x.envelope(0, 10, 0, 0), GuessFair.BAD);
        Due.is("4: v -1", x.envelope(0, -1, 0, 0), GuessFair.BAD);
        Due.is("4: saying 8", x.envelope(0, 0, 8, 0), GuessFair.BAD);
        Due.is("4: saying -1", x.envelope(0, 0, -1, 0), GuessFair.BAD);
        Due.is("4: saying of the highest bit", x.envelope(0, 0, Integer.MIN_VALUE, 0), GuessFair.BAD);
        Due.is("4: price 100", x.envelope(0, 0, 0, 100), GuessFair.BAD);
        Due.is("4: price -1", x.envelope(0, 0, 0, -1), GuessFair.BAD);
        Due.is("4: none came", x.count(0), 0);
        Due.is("4: saying 7", x.envelope(0, 0, 7, 0), 0);
    }

    private static void ofAnEnvelope() {
        GuessFair x = Due.fair(1, 1, 1);
        x.pass(5);
        x.envelope(6, 9, 5, 77);
        x.pass(99);
        x.pass(99);
        int[] wants = {6, 9, 5, 77, 198};
        for (int what = 0; what < 5; what++) {
            Due.is("5: of(0, " + what + ")", x.of(0, what), wants[what]);
        }
        Due.is("5: of(0, 5)", x.of(0, 5), GuessFair.NONE);
        Due.is("5: of(0, -1)", x.of(0, -1), GuessFair.NONE);
        Due.is("5: of(1, 0)", x.of(1, 0), GuessFair.NONE);
        Due.is("5: of(-1, 0)", x.of(-1, 0), GuessFair.NONE);
    }

    private static void prices() {
        GuessFair x = new GuessFair();
        x.envelope(0, 1, 0, 50);
        Due.is("6: price(0, 99)", x.price(0, 99), 50);
        Due.is("6: price(0, 0)", x.price(0, 0), 99);
        Due.is("6: price(0, 100)", x.price(0, 100), GuessFair.BAD);
        Due.is("6: price(0, -1)", x.price(0, -1), GuessFair.BAD);
        Due.is("6: price(1, 100)", x.price(1, 100), GuessFair.NONE);
        Due.is("6: price(-1, 1)", x.price(-1, 1), GuessFair.NONE);
        Due.is("6: of(0, 3)", x.of(0, 3), 0);
    }

    private static void sayings() {
        GuessFair x = Due.fair(1, 1);
        x.envelope(0, 1, 1, 0);
        Due.is("7: say(0, 3)", x.say(0, 3), 1);
        Due.is("7: say(0, 0)", x.say(0, 0), 3);
        Due.is("7: say(0, 4)", x.say(0, 4), GuessFair.BAD);
        Due.is("7: say(0, -1)", x.say(0, -1), GuessFair.BAD);
        Due.is("7: say(1, 4)", x.say(1, 4), GuessFair.NONE);
        Due.is("7: of(0, 2)", x.of(0, 2), 0);
        x.world(1);
        Due.is("7: say(0, 4) with a third world", x.say(0, 4), 0);
    }

    private static void rows() {
        GuessFair x = Due.fair(1);
        x.envelope(6, 1, 1, 0);
        x.envelope(3, 1, 1, 0);
        Due.is("8: row(0, 0, 9)", x.row(0, 0, 9), 0);
        Due.is("8: row(0, 0, 0)", x.row(0, 0, 0), 9);
        Due.is("8: row(0, 3, 4)", x.row(0, 3, 4), 0);
        Due.is("8: row(0, 3, 5)", x.row(0, 3, 5), 4);
        Due.is("8: row(0, 4, 10)", x.row(0, 4, 10), GuessFair.NONE);
        Due.is("8: row(0, -1, 1)", x.row(0, -1, 1), GuessFair.NONE);
        Due.is("8: row(2, 0, 1)", x.row(2, 0, 1), GuessFair.NONE);
        Due.is("8: row(0, 0, 10)", x.row(0, 0, 10), GuessFair.BAD);
        Due.is("8: row(0, 0, -1)", x.row(0, 0, -1), GuessFair.BAD);
        Due.is("8: row(1, 0, 10) of a late one", x.row(1, 0, 10), GuessFair.BAD);
        Due.is("8: row(1, 0, 1) of a late one", x.row(1, 0, 1), GuessFair.STATE);
        Due.is("8: row(0, 0, 0) again", x.row(0, 0, 0), 0);
    }
}
