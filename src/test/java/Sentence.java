import java.util.List;
import java.util.function.Consumer;
import java.util.function.ToLongFunction;

/** A sentence of the document that names a boundary case, with the promise that it belongs to. */
final class Sentence {
    private static Sentence latest;
    private final String name;

    private Sentence(int promise, String words) {
        name = "promise " + promise + ", \"" + words + "\": ";
        latest = this;
        Document.quote(promise, words);
    }

    /** Makes tests one by one; one that throws is told, and does not end the others. */
    static void each(Runnable... tests) {
        for (Runnable test : tests) {
            try {
                test.run();
            } catch (RuntimeException e) {
                latest.is("a call throws " + e, 1, 0);
            }
        }
    }

    static Sentence of(int promise, String words) {
        return new Sentence(promise, words);
    }

    Sentence is(String call, long got, long want) {
        Due.is(name + call, got, want);
        return this;
    }

    /** A call that is refused on a fair that has some of all, and changes nothing there. */
    Sentence refuses(String call, long want, ToLongFunction<GuessFair> made) {
        return refuses("", x -> { }, call, want, made);
    }

    /** The same, on a fair that was prepared. */
    Sentence refuses(String when, Consumer<GuessFair> ahead, String call, long want, ToLongFunction<GuessFair> made) {
        GuessFair x = someOfAll();
        ahead.accept(x);
        is(when + call, made.applyAsLong(x), want);
        return looksAsBefore(when + call, x, ahead);
    }

    /** A call that asks only, and changes nothing. */
    Sentence asks(String call, ToLongFunction<GuessFair> made) {
        GuessFair x = someOfAll();
        made.applyAsLong(x);
        return looksAsBefore(call, x, y -> { });
    }

    private Sentence looksAsBefore(String call, GuessFair x, Consumer<GuessFair> ahead) {
        GuessFair twin = someOfAll();
        ahead.accept(twin);
        List<String> got = Look.at(x);
        List<String> want = Look.at(twin);
        for (int n = 0; n < want.size(); n++) {
            if (!got.get(n).equals(want.get(n))) {
                is(call + " changes nothing, but then " + got.get(n) + ", and without it " + want.get(n), 1, 0);
                return this;
            }
        }
        return this;
    }

    /** Three worlds, three envelopes (1 is a told one), two laws, a text of six signs, an image and rows of all sorts. */
    static GuessFair someOfAll() {
        GuessFair x = Due.fair(4, 6, 5);
        x.pass(2);
        x.envelope(0, 3, 1, 10);
        x.envelope(6, 2, 6, 20);
        x.envelope(1, 5, 4, 30);
        for (int part = 0; part < 4; part++) {
            x.row(1, part, part + 1);
        }
        x.open(0, false);
        x.book(0, 0, 31);
        Due.law(x, "more 1 w=0");
        x.image();
        x.chance(0, 7);
        x.price(0, 11);
        x.say(0, 3);
        x.pass(1);
        x.row(1, 1, 9);
        x.open(1, true);
        x.book(1, 1, 5);
        Due.law(x, "base 9");
        Due.feed(x, "base 1");
        int[] sizes = {4, 3, 2, 0};
        int[] sorts = {3, 0, 4, 3};
        for (int tape = 0; tape < 4; tape++) {
            x.tape(tape, sorts[tape], sizes[tape]);
            x.item(tape, 1, 20);
        }
        x.act(1, 2, 5);
        return x;
    }
}
