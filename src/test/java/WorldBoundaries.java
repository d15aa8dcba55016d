/** Promises 1 to 8: the sentences that name a boundary case. */
final class WorldBoundaries {
    private static final int LEAST = Integer.MIN_VALUE, GREATEST = Integer.MAX_VALUE;

    private WorldBoundaries() {
    }

    static void all() {
        Sentence.each(
            WorldBoundaries::newObject, WorldBoundaries::constants, WorldBoundaries::lastCall, WorldBoundaries::worlds,
            WorldBoundaries::chances, WorldBoundaries::envelopeNumbers, WorldBoundaries::envelopeRefusals,
            WorldBoundaries::ofAnEnvelope, WorldBoundaries::prices, WorldBoundaries::sayings, WorldBoundaries::rows,
            WorldBoundaries::rowRefusals);
    }

    private static void newObject() {
        GuessFair x = new GuessFair();
        Sentence.of(1, "No WORLDS, no ENVELOPES, no LAW.")
            .is("count(1)", x.count(1), 0)
            .is("count(0)", x.count(0), 0)
            .is("count(2)", x.count(2), 0)
            .is("told(10)", x.told(10), GuessFair.NONE)
            .is("of(0, 0)", x.of(0, 0), GuessFair.NONE)
            .is("told(2)", x.told(2), 10);
        Sentence.of(1, "DAY, PAID: 0 at first.")
            .is("told(0)", x.told(0), 0)
            .is("told(1)", x.told(1), 0);
        Sentence.of(1, "hold nothing (at first)")
            .is("item(0, 0, 0)", x.item(0, 0, 0), -11)
            .is("item(5, 0, 0)", x.item(5, 0, 0), -11)
            .is("read(0, 0)", x.read(0, 0), GuessFair.NO);
        Sentence.of(1, "OPENED told by hand: an ENVELOPE, whether it was TRUE (8 at most).").is("count(3)", x.count(3), 0);
        Sentence.of(1, "A BOOK told by hand: an ENVELOPE, a WORLD, a PAY (0 .. 9999; 8 at most)").is("count(4)", x.count(4), 0);
        Sentence.of(1, "THE TEXT (bytes, 100 at most)").is("count(5)", x.count(5), 0);
        Sentence.of(1, "THE TRACE: the numbers of the bodies that ran in the latest act()")
            .is("count(6)", x.count(6), 0)
            .is("trace(0)", x.trace(0), GuessFair.NONE);
    }

    private static void constants() {
        Sentence.of(1, "public static final int NONE = -1, BAD = -2, STATE = -3, FULL = -4;")
            .is("NONE", GuessFair.NONE, -1).is("BAD", GuessFair.BAD, -2).is("STATE", GuessFair.STATE, -3).is("FULL", GuessFair.FULL, -4);
        Sentence.of(1, "public static final long NO = Long.MIN_VALUE;").is("NO", GuessFair.NO, Long.MIN_VALUE);
    }

    /** The 512th call is answered as the first; behind it no call may throw. */
    private static void lastCall() {
        GuessFair x = new GuessFair();
        x.world(5);
        x.envelope(3, 2, 1, 7);
        x.image();
        Sentence s = Sentence.of(1, "An object is used for at most 512 calls after it has been made");
        for (int call = 4; call <= 510; call++) {
            s.is("come(0), call " + call, x.come(0), Math.max(0, 20 - (call - 4)));
        }
        s.is("told(0), call 511", x.told(0), 507).is("undo(), call 512", x.undo(), 1);
        for (int call = 513; call < 1000; call++) {
            x.world(call);
            x.feed(call % 128);
            x.law();
            x.come(0);
        }
    }

    private static void worlds() {
        GuessFair x = new GuessFair();
        Sentence numbers = Sentence.of(2, "WORLDS 0 .. 5, as they come");
        for (int w = 0; w < 6; w++) {
            numbers.is("world(1), the " + (w + 1) + ".", x.world(1), w);
        }
        numbers.is("count(1)", x.count(1), 6);
        x = new GuessFair();
        Sentence.of(2, "each with a CHANCE (a weight 1 .. 30)")
            .is("world(1)", x.world(1), 0)
            .is("world(30)", x.world(30), 1)
            .is("told(10)", x.told(10), 1)
            .is("told(11)", x.told(11), 30);
        Sentence bad = Sentence.of(2, "BAD: chance");
        for (int n : new int[] {0, -1, 31, LEAST, GREATEST}) {
            bad.refuses("world(" + n + ")", GuessFair.BAD, y -> y.world(n));
        }
        Sentence.of(2, "FULL: 6").refuses("six worlds, ", WorldBoundaries::sixWorlds, "world(1)", GuessFair.FULL, y -> y.world(1));
        Sentence.of(2, "the first that a call's words name")
            .refuses("six worlds, ", WorldBoundaries::sixWorlds, "world(0)", GuessFair.BAD, y -> y.world(0));
        Sentence.of(2, "BAD (-2) a number is not as told").is("world(0)", new GuessFair().world(0), -2);
        Sentence.of(2, "FULL (-4)").is("world(1), the seventh", Due.fair(1, 1, 1, 1, 1, 1).world(1), -4);
    }

    private static void sixWorlds(GuessFair x) {
        for (int w = 3; w < 6; w++) {
            x.world(w);
        }
    }

    private static void chances() {
        GuessFair x = Due.fair(4, 6, 5);
        Sentence.of(3, "CHANCE of a WORLD becomes n: what it was.")
            .is("chance(0, 1)", x.chance(0, 1), 4)
            .is("chance(0, 30)", x.chance(0, 30), 1)
            .is("chance(2, 30), the last", x.chance(2, 30), 5)
            .is("told(10)", x.told(10), 30)
            .is("told(11)", x.told(11), 6)
            .is("told(12)", x.told(12), 30);
        Sentence none = Sentence.of(3, "NONE");
        for (int w : new int[] {3, 6, -1, LEAST, GREATEST}) {
            none.refuses("chance(" + w + ", 1)", GuessFair.NONE, y -> y.chance(w, 1));
        }
        none.is("no worlds: chance(0, 1)", new GuessFair().chance(0, 1), GuessFair.NONE);
        Sentence bad = Sentence.of(3, "BAD");
        for (int n : new int[] {0, -1, 31, LEAST, GREATEST}) {
            bad.refuses("chance(0, " + n + ")", GuessFair.BAD, y -> y.chance(0, n));
        }
        Sentence.of(3, "the first that a call's words name").refuses("chance(3, 0)", GuessFair.NONE, y -> y.chance(3, 0));
        Sentence.of(3, "NONE (-1) no such number").is("chance(0, 1)", new GuessFair().chance(0, 1), -1);
    }

    private static void envelopeNumbers() {
        GuessFair x = new GuessFair();
        Sentence numbers = Sentence.of(4, "ENVELOPES 0 .. 7, as they come");
        for (int e = 0; e < 8; e++) {
            numbers.is("envelope(0, 0, 0, 0), the " + (e + 1) + ".", x.envelope(0, 0, 0, 0), e);
        }
        numbers.is("count(0)", x.count(0), 8);
        x = new GuessFair();
        Sentence kinds = Sentence.of(4, "0 ENVELOPE; 1 NEAR, 2 RARE, 3 LATE under ENVELOPE; 4 SURPRISING under NEAR; "
            + "5 CONTRARY under RARE; 6 TOLD under LATE");
        for (int kind = 0; kind < 7; kind++) {
            kinds.is("envelope(" + kind + ", ..)", x.envelope(kind, 0, 0, 0), kind);
            kinds.is("of(" + kind + ", 0)", x.of(kind, 0), kind);
        }
        x = Due.fair(1, 1, 1, 1, 1, 1);
        x.envelope(0, 0, 0, 0);
        x.envelope(0, 9, 63, 99);
        Sentence.of(4, "with a number v (0 .. 9)").is("of(0, 1)", x.of(0, 1), 0).is("of(1, 1)", x.of(1, 1), 9);
        Sentence.of(4, "a SAYING (WORLDS, as bits; also none)").is("of(0, 2)", x.of(0, 2), 0).is("of(1, 2)", x.of(1, 2), 63);
        Sentence.of(4, "a PRICE (0 .. 99)").is("of(0, 3)", x.of(0, 3), 0).is("of(1, 3)", x.of(1, 3), 99);
        Sentence.of(4, "the DAY when it came").is("of(0, 4)", x.of(0, 4), 0).is("of(1, 4)", x.of(1, 4), 0);
    }

    private static void envelopeRefusals() {
        Sentence none = Sentence.of(4, "NONE: kind");
        for (int kind : new int[] {-1, 7, LEAST, GREATEST}) {
            none.refuses("envelope(" + kind + ", 0, 0, 0)", GuessFair.NONE, x -> x.envelope(kind, 0, 0, 0));
        }
        Sentence badV = Sentence.of(4, "BAD: v");
        for (int v : new int[] {-1, 10, LEAST, GREATEST}) {
            badV.refuses("envelope(0, " + v + ", 0, 0)", GuessFair.BAD, x -> x.envelope(0, v, 0, 0));
        }
        Sentence badSaying = Sentence.of(4, "saying (bits of WORLDS that there are not)");
        for (int saying : new int[] {8, 9, 15, 32, 64, -1, -8, LEAST, GREATEST}) {
            badSaying.refuses("envelope(0, 0, " + saying + ", 0)", GuessFair.BAD, x -> x.envelope(0, 0, saying, 0));
        }
        badSaying.is("no worlds: envelope(0, 0, 1, 0)", new GuessFair().envelope(0, 0, 1, 0), GuessFair.BAD);
        badSaying.is("no worlds: envelope(0, 0, 0, 0)", new GuessFair().envelope(0, 0, 0, 0), 0);
        badSaying.is("six worlds: envelope(0, 0, 64, 0)", Due.fair(1, 1, 1, 1, 1, 1).envelope(0, 0, 64, 0), GuessFair.BAD);
        Sentence badPrice = Sentence.of(4, "price;");
        for (int price : new int[] {-1, 100, LEAST, GREATEST}) {
            badPrice.refuses("envelope(0, 0, 0, " + price + ")", GuessFair.BAD, x -> x.envelope(0, 0, 0, price));
        }
        String when = "eight envelopes, ";
        Sentence.of(4, "FULL: 8").refuses(when, WorldBoundaries::eightEnvelopes, "envelope(0, 0, 0, 0)", GuessFair.FULL,
            x -> x.envelope(0, 0, 0, 0));
        Sentence.of(4, "the first that a call's words name")
            .refuses("envelope(7, 10, 8, 100)", GuessFair.NONE, x -> x.envelope(7, 10, 8, 100))
            .refuses(when, WorldBoundaries::eightEnvelopes, "envelope(7, 0, 0, 0)", GuessFair.NONE, x -> x.envelope(7, 0, 0, 0))
            .refuses(when, WorldBoundaries::eightEnvelopes, "envelope(0, 10, 0, 0)", GuessFair.BAD, x -> x.envelope(0, 10, 0, 0))
            .refuses(when, WorldBoundaries::eightEnvelopes, "envelope(0, 0, 8, 0)", GuessFair.BAD, x -> x.envelope(0, 0, 8, 0))
            .refuses(when, WorldBoundaries::eightEnvelopes, "envelope(0, 0, 0, 100)", GuessFair.BAD, x -> x.envelope(0, 0, 0, 100));
    }

    private static void eightEnvelopes(GuessFair x) {
        for (int e = 3; e < 8; e++) {
            x.envelope(e % 7, e, 1, e);
        }
    }

    private static void ofAnEnvelope() {
        GuessFair x = Due.fair(1, 1);
        x.pass(1);
        x.envelope(5, 8, 3, 70);
        Sentence days = Sentence.of(5, "4 how many DAYS it is old.").is("on its first day", x.of(0, 4), 0);
        x.pass(99);
        days.is("after 99 days", x.of(0, 4), 99);
        x.come(0);
        days.is("after 100 days: no most is told", x.of(0, 4), 100);
        for (int n = 0; n < 99; n++) {
            x.pass(99);
        }
        x.pass(96);
        x.come(0);
        days.is("on the last day", x.of(0, 4), 9998);
        Sentence.of(5, "Of an ENVELOPE what 0 KIND, 1 v, 2 SAYING, 3 PRICE")
            .is("of(0, 0)", x.of(0, 0), 5)
            .is("of(0, 1)", x.of(0, 1), 8)
            .is("of(0, 2)", x.of(0, 2), 3)
            .is("of(0, 3)", x.of(0, 3), 70);
        Sentence none = Sentence.of(5, "NONE");
        for (int n : new int[] {-1, 3, 8, LEAST, GREATEST}) {
            none.refuses("of(" + n + ", 0)", GuessFair.NONE, y -> y.of(n, 0));
        }
        for (int what : new int[] {-1, 5, LEAST, GREATEST}) {
            none.refuses("of(0, " + what + ")", GuessFair.NONE, y -> y.of(0, what));
        }
        none.is("no envelopes: of(0, 0)", new GuessFair().of(0, 0), GuessFair.NONE);
    }

    private static void prices() {
        GuessFair x = new GuessFair();
        x.envelope(0, 0, 0, 5);
        x.envelope(0, 0, 0, 6);
        Sentence.of(6, "PRICE of an ENVELOPE becomes n: what it was.")
            .is("price(0, 0)", x.price(0, 0), 5)
            .is("price(0, 99)", x.price(0, 99), 0)
            .is("price(1, 99), the last", x.price(1, 99), 6)
            .is("of(0, 3)", x.of(0, 3), 99);
        Sentence none = Sentence.of(6, "NONE");
        for (int e : new int[] {-1, 3, 8, LEAST, GREATEST}) {
            none.refuses("price(" + e + ", 1)", GuessFair.NONE, y -> y.price(e, 1));
        }
        Sentence bad = Sentence.of(6, "BAD");
        for (int n : new int[] {-1, 100, LEAST, GREATEST}) {
            bad.refuses("price(0, " + n + ")", GuessFair.BAD, y -> y.price(0, n));
        }
        Sentence.of(6, "the first that a call's words name").refuses("price(3, 100)", GuessFair.NONE, y -> y.price(3, 100));
    }

    private static void sayings() {
        GuessFair x = Due.fair(1, 1, 1, 1, 1);
        x.envelope(0, 0, 3, 0);
        Sentence.of(7, "SAYING of an ENVELOPE becomes so: what it was.")
            .is("say(0, 0), none", x.say(0, 0), 3)
            .is("say(0, 31), all", x.say(0, 31), 0)
            .is("of(0, 2)", x.of(0, 2), 31);
        Sentence none = Sentence.of(7, "NONE");
        for (int e : new int[] {-1, 3, 8, LEAST, GREATEST}) {
            none.refuses("say(" + e + ", 1)", GuessFair.NONE, y -> y.say(e, 1));
        }
        Sentence bad = Sentence.of(7, "BAD");
        for (int saying : new int[] {8, 9, 32, 64, -1, -8, LEAST, GREATEST}) {
            bad.refuses("say(0, " + saying + ")", GuessFair.BAD, y -> y.say(0, saying));
        }
        bad.is("five worlds: say(0, 32)", x.say(0, 32), GuessFair.BAD);
        x.world(1);
        bad.is("six worlds: say(0, 64)", x.say(0, 64), GuessFair.BAD).is("six worlds: say(0, 63)", x.say(0, 63), 31);
        Sentence.of(7, "the first that a call's words name").refuses("say(3, 8)", GuessFair.NONE, y -> y.say(3, 8));
    }

    private static void rows() {
        GuessFair x = new GuessFair();
        x.envelope(6, 0, 0, 0);
        Sentence row = Sentence.of(8, "its ROW (four numbers 0 .. 9; 0 at first)");
        for (int part = 0; part < 4; part++) {
            row.is("row(0, " + part + ", 9)", x.row(0, part, 9), 0);
        }
        for (int part = 0; part < 4; part++) {
            row.is("row(0, " + part + ", 0)", x.row(0, part, 0), 9);
        }
        Sentence.of(8, "becomes n (0 .. 9) for DAYS modulo 4 being part: what it was.")
            .is("row(0, 3, 9)", x.row(0, 3, 9), 0)
            .is("row(0, 3, 0)", x.row(0, 3, 0), 9)
            .is("row(0, 3, 1)", x.row(0, 3, 1), 0)
            .is("row(0, 2, 1): others stay", x.row(0, 2, 1), 0);
    }

    private static void rowRefusals() {
        Sentence none = Sentence.of(8, "NONE: envelope, part");
        for (int n : new int[] {-1, 3, 8, LEAST, GREATEST}) {
            none.refuses("row(" + n + ", 0, 1)", GuessFair.NONE, x -> x.row(n, 0, 1));
        }
        for (int part : new int[] {-1, 4, LEAST, GREATEST}) {
            none.refuses("row(1, " + part + ", 1)", GuessFair.NONE, x -> x.row(1, part, 1));
        }
        Sentence bad = Sentence.of(8, "BAD;");
        for (int n : new int[] {-1, 10, LEAST, GREATEST}) {
            bad.refuses("row(1, 0, " + n + ")", GuessFair.BAD, x -> x.row(1, 0, n));
        }
        Sentence state = Sentence.of(8, "STATE: another KIND")
            .refuses("row(0, 0, 1)", GuessFair.STATE, x -> x.row(0, 0, 1))
            .refuses("row(2, 3, 0)", GuessFair.STATE, x -> x.row(2, 3, 0));
        for (int kind = 0; kind < 6; kind++) {
            GuessFair x = new GuessFair();
            x.envelope(kind, 0, 0, 0);
            state.is("of kind " + kind + ": row(0, 0, 1)", x.row(0, 0, 1), GuessFair.STATE);
        }
        Sentence.of(8, "the first that a call's words name")
            .refuses("row(3, 0, 10)", GuessFair.NONE, x -> x.row(3, 0, 10))
            .refuses("row(1, 4, 10)", GuessFair.NONE, x -> x.row(1, 4, 10))
            .refuses("row(0, 4, 1)", GuessFair.NONE, x -> x.row(0, 4, 1))
            .refuses("row(0, 0, 10)", GuessFair.BAD, x -> x.row(0, 0, 10));
    }
}
