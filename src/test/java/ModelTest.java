import java.util.Random;

/** All promises: long runs of calls, likely ones and wild ones, each answered by the class as by the model. */
public final class ModelTest {
    private static final int RUNS = 120, CALLS = 500;
    private static final int[] WILD = {-1, -2, 7, 8, 10, 31, 61, 63, 64, 99, 100, 127, 128, 9999, 10000,
        Integer.MAX_VALUE, Integer.MIN_VALUE, 1 << 16, 255, 256};
    private static final String[] NAMES = {"world", "chance", "envelope", "of", "price", "say", "row", "feed", "law", "told",
        "pass", "come", "pay", "mean", "gain", "least", "open", "left", "odds", "knew", "best", "safest", "sure", "hedge",
        "against", "when", "crowd", "cheap", "burnt", "worth", "book", "looked", "judge", "image", "undo", "act", "trace",
        "taken", "count", "tape", "item", "read", "shift"};

    private final Random random;
    private final GuessFair x = new GuessFair();
    private final Model m = new Model();
    private final StringBuilder calls = new StringBuilder();
    private int made = 0;
    private boolean isWrong = false;

    private ModelTest(int seed) {
        random = new Random(seed);
    }

    public static void main(String[] args) {
        for (int seed = 0; seed < RUNS; seed++) {
            ModelTest run = new ModelTest(seed);
            run.all(seed % 4 == 0, seed % 8 == 3);
            if (run.isWrong) {
                System.out.println("run " + seed + ":" + run.calls);
                System.exit(1);
            }
        }
    }

    private void all(boolean isBare, boolean isLate) {
        if (!isBare) {
            start();
        }
        for (int n = 0; isLate && n < 100; n++) {
            call(10, 99, 0, 0, 0, 0);
        }
        while (made < CALLS && !isWrong) {
            if (random.nextInt(12) == 0 && made < CALLS - 101) {
                law();
            } else {
                any(random.nextInt(NAMES.length));
            }
        }
    }

    private void start() {
        int worlds = random.nextInt(7);
        for (int n = 0; n < worlds; n++) {
            call(0, 1 + random.nextInt(30), 0, 0, 0, 0);
        }
        int envelopes = random.nextInt(9);
        for (int n = 0; n < envelopes; n++) {
            call(2, random.nextInt(7), random.nextInt(10), random.nextInt(1 << worlds), random.nextInt(100), 0);
        }
    }

    private void law() {
        StringBuilder text = new StringBuilder();
        int clauses = 1 + random.nextInt(random.nextInt(4) == 0 ? 11 : 3);
        for (int n = 0; n < clauses; n++) {
            text.append(n == 0 ? "" : ";");
            if (random.nextInt(3) == 0) {
                text.append("base ").append(random.nextInt(100));
            } else {
                text.append(random.nextBoolean() ? "more " : "tax ").append(random.nextInt(100)).append(' ');
                expression(text, 0);
            }
        }
        if (random.nextInt(3) == 0) {
            spoil(text);
        }
        for (int n = 0; n < text.length() && n < 100; n++) {
            call(7, text.charAt(n), 0, 0, 0, 0);
        }
        call(8, 0, 0, 0, 0, 0);
    }

    private void expression(StringBuilder text, int depth) {
        int parts = 1 + random.nextInt(3);
        for (int n = 0; n < parts; n++) {
            text.append(n == 0 ? "" : random.nextBoolean() ? "|" : "&");
            factor(text, depth);
        }
    }

    private void factor(StringBuilder text, int depth) {
        int choice = random.nextInt(5);
        if (choice == 0 && depth < 5) {
            text.append('!');
            factor(text, depth + 1);
        } else if (choice == 1 && depth < 5) {
            text.append('(');
            expression(text, depth + 1);
            text.append(')');
        } else {
            text.append("ekswcd".charAt(random.nextInt(6))).append("<=>".charAt(random.nextInt(3)));
            text.append(random.nextInt(random.nextInt(6) == 0 ? 100 : 7));
        }
    }

    private void spoil(StringBuilder text) {
        int at = random.nextInt(text.length());
        String signs = "more tax base;|&!()<=>0123456789ekswcdx?";
        switch (random.nextInt(4)) {
            case 0 -> text.setLength(at);
            case 1 -> text.deleteCharAt(at);
            case 2 -> text.insert(at, signs.charAt(random.nextInt(signs.length())));
            default -> text.setCharAt(at, signs.charAt(random.nextInt(signs.length())));
        }
    }

    private int number(int most) {
        int choice = random.nextInt(16);
        if (choice == 0) {
            return WILD[random.nextInt(WILD.length)];
        }
        return choice == 1 ? most + 1 - random.nextInt(3) : random.nextInt(most + 1);
    }

    private int set(int count) {
        return random.nextInt(8) == 0 ? number(300) : random.nextInt(1 << count);
    }

    private int known(int count) {
        return random.nextInt(6) == 0 || count == 0 ? number(7) : random.nextInt(count);
    }

    private void any(int name) {
        int e = known(m.count(0));
        int w = known(m.count(1));
        int said = set(m.count(1));
        switch (NAMES[name]) {
            case "world" -> call(name, number(30), 0, 0, 0, 0);
            case "chance" -> call(name, w, number(30), 0, 0, 0);
            case "envelope" -> call(name, number(6), number(9), said, number(99), 0);
            case "of", "act", "taken" -> call(name, e, number(6) - random.nextInt(4), number(1000), 0, 0);
            case "price" -> call(name, e, number(99), 0, 0, 0);
            case "say" -> call(name, e, said, 0, 0, 0);
            case "row" -> call(name, e, number(3), number(9), 0, 0);
            case "feed" -> call(name, number(127), 0, 0, 0, 0);
            case "told" -> call(name, number(16), 0, 0, 0, 0);
            case "pass", "worth" -> call(name, number(99), 0, 0, 0, 0);
            case "come" -> call(name, w, 0, 0, 0, 0);
            case "pay" -> call(name, e, w, 0, 0, 0);
            case "gain" -> call(name, set(m.count(0)), w, 0, 0, 0);
            case "least" -> call(name, set(m.count(0)), 0, 0, 0, 0);
            case "open" -> call(name, random.nextInt(4) == 0 ? -1 : e, number(1), 0, 0, 0);
            case "mean", "odds", "best" -> call(name, e, number(1), 0, 0, 0);
            case "safest", "crowd" -> call(name, number(1), 0, 0, 0, 0);
            case "against", "burnt" -> call(name, e, 0, 0, 0, 0);
            case "when" -> call(name, e, number(60), number(1), 0, 0);
            case "book" -> call(name, random.nextInt(9) == 0 ? -1 : e, w, random.nextInt(3) == 0 ? number(9999) : m.pay(e, w), 0, 0);
            case "tape" -> call(name, number(5), random.nextInt(3) == 0 ? 3 : number(5) - 1, number(60), 0, 0);
            case "item" -> call(name, number(5), number(40), number(99), random.nextInt(), 0);
            case "read" -> call(name, number(5), number(40), 0, 0, 0);
            case "judge" -> judged(name);
            case "shift" -> call(name, number(5), number(9), number(5), number(9), number(20));
            default -> call(name, number(12), 0, 0, 0, 0);
        }
    }

    /** Half of all judged rows have the prices, or nearly so. */
    private void judged(int name) {
        int tape = number(5);
        int from = number(3);
        if (random.nextBoolean()) {
            call(39, tape, 3, 3 + m.count(0) + random.nextInt(2), 0, 0);
            for (int n = 0; n < m.count(0); n++) {
                call(40, tape, from + n, m.of(n, 3), random.nextInt(9) == 0 ? 1 : 0, 0);
            }
        }
        call(name, tape, from, 0, 0, 0);
    }

    private void call(int name, int a, int b, int c, int d, int e) {
        long got = ofClass(NAMES[name], a, b, c, d, e);
        long want = ofModel(NAMES[name], a, b, c, d, e);
        made++;
        calls.append(' ').append(NAMES[name]).append('(').append(a).append(", ").append(b).append(", ").append(c);
        calls.append(", ").append(d).append(", ").append(e).append(")=").append(got);
        if (got != want && !isWrong) {
            isWrong = true;
            System.out.println(NAMES[name] + " answered " + got + ", due is " + want);
        }
    }

    /** A long of two numbers, so that items have high bits too. */
    private static long wide(int high, int low) {
        return ((long) high << 32) + low;
    }

    private long ofClass(String name, int a, int b, int c, int d, int e) {
        return switch (name) {
            case "world" -> x.world(a);
            case "chance" -> x.chance(a, b);
            case "envelope" -> x.envelope(a, b, c, d);
            case "of" -> x.of(a, b);
            case "price" -> x.price(a, b);
            case "say" -> x.say(a, b);
            case "row" -> x.row(a, b, c);
            case "feed" -> x.feed(a);
            case "law" -> x.law();
            case "told" -> x.told(a);
            case "pass" -> x.pass(a);
            case "come" -> x.come(a);
            case "pay" -> x.pay(a, b);
            case "mean" -> x.mean(a, b);
            case "gain" -> x.gain(a, b);
            case "least" -> x.least(a);
            case "open" -> x.open(a, b == 1);
            case "left" -> x.left();
            case "odds" -> x.odds(a, b);
            case "knew" -> x.knew();
            case "best" -> x.best(a, b);
            case "safest" -> x.safest(a);
            case "sure" -> x.sure();
            case "hedge" -> x.hedge();
            case "against" -> x.against(a);
            case "when" -> x.when(a, b, c);
            case "crowd" -> x.crowd(a);
            case "cheap" -> x.cheap();
            case "burnt" -> x.burnt(a);
            case "worth" -> x.worth(a);
            case "book" -> x.book(a, b, c);
            case "looked" -> x.looked();
            case "judge" -> x.judge(a, b);
            case "image" -> x.image();
            case "undo" -> x.undo();
            case "act" -> x.act(a, b, c);
            case "trace" -> x.trace(a);
            case "taken" -> x.taken(a, b);
            case "count" -> x.count(a);
            case "tape" -> x.tape(a, b, c);
            case "item" -> x.item(a, b, wide(d, c));
            case "read" -> x.read(a, b);
            default -> x.shift(a, b, c, d, e);
        };
    }

    private long ofModel(String name, int a, int b, int c, int d, int e) {
        return switch (name) {
            case "world" -> m.world(a);
            case "chance" -> m.chance(a, b);
            case "envelope" -> m.envelope(a, b, c, d);
            case "of" -> m.of(a, b);
            case "price" -> m.price(a, b);
            case "say" -> m.say(a, b);
            case "row" -> m.row(a, b, c);
            case "feed" -> m.feed(a);
            case "law" -> m.law();
            case "told" -> m.told(a);
            case "pass" -> m.pass(a);
            case "come" -> m.come(a);
            case "pay" -> m.pay(a, b);
            case "mean" -> m.mean(a, b);
            case "gain" -> m.gain(a, b);
            case "least" -> m.least(a);
            case "open" -> m.open(a, b == 1);
            case "left" -> m.left();
            case "odds" -> m.odds(a, b);
            case "knew" -> m.knew();
            case "best" -> m.best(a, b);
            case "safest" -> m.safest(a);
            case "sure" -> m.sure();
            case "hedge" -> m.hedge();
            case "against" -> m.against(a);
            case "when" -> m.when(a, b, c);
            case "crowd" -> m.crowd(a);
            case "cheap" -> m.cheap();
            case "burnt" -> m.burnt(a);
            case "worth" -> m.worth(a);
            case "book" -> m.book(a, b, c);
            case "looked" -> m.looked();
            case "judge" -> m.judge(a, b);
            case "image" -> m.image();
            case "undo" -> m.undo();
            case "act" -> m.act(a, b, c);
            case "trace" -> m.trace(a);
            case "taken" -> m.taken(a, b);
            case "count" -> m.count(a);
            case "tape" -> m.tape(a, b, c);
            case "item" -> m.item(a, b, wide(d, c));
            case "read" -> m.read(a, b);
            default -> m.shift(a, b, c, d, e);
        };
    }
}
