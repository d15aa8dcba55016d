/** What is asked changes nothing: each call that asks, of its own promise. */
final class AskedBoundaries {
    private AskedBoundaries() {
    }

    static void all() {
        Sentence.each(
            AskedBoundaries::things, AskedBoundaries::questions, AskedBoundaries::choices, AskedBoundaries::tapes);
    }

    private static Sentence of(int promise) {
        boolean isOfPartTwo = promise >= 15 && promise <= 33;
        return Sentence.of(promise, isOfPartTwo ? "All that follows is asked, as things are now, and changes nothing."
            : "what is asked changes nothing");
    }

    private static void things() {
        for (int n = 0; n < 5; n++) {
            int what = n;
            of(5).asks("of(1, " + what + ")", x -> x.of(1, what));
            of(11).asks("told(" + what + ")", x -> x.told(what));
            of(40).asks("count(" + what + ")", x -> x.count(what));
        }
        of(14).asks("pay(1, 2)", x -> x.pay(1, 2));
    }

    private static void questions() {
        for (int n = 0; n < 2; n++) {
            int what = n;
            of(15).asks("mean(1, " + what + ")", x -> x.mean(1, what));
            of(20).asks("odds(1, " + what + ")", x -> x.odds(1, what));
            of(22).asks("best(1, " + what + ")", x -> x.best(1, what));
            of(23).asks("safest(" + what + ")", x -> x.safest(what));
            of(27).asks("when(1, 60, " + what + ")", x -> x.when(1, 60, what));
            of(28).asks("crowd(" + what + ")", x -> x.crowd(what));
        }
        of(16).asks("gain(7, 2)", x -> x.gain(7, 2));
        of(17).asks("least(7)", x -> x.least(7));
        of(19).asks("left()", x -> x.left());
        of(21).asks("knew()", x -> x.knew());
    }

    private static void choices() {
        of(24).asks("sure()", x -> x.sure());
        of(25).asks("hedge()", x -> x.hedge());
        of(26).asks("against(1)", x -> x.against(1));
        of(29).asks("cheap()", x -> x.cheap());
        of(30).asks("burnt(1)", x -> x.burnt(1));
        of(31).asks("worth(9)", x -> x.worth(9));
        of(33).asks("looked()", x -> x.looked());
    }

    private static void tapes() {
        of(34).asks("judge(0, 0)", x -> x.judge(0, 0));
        of(38).asks("trace(3)", x -> x.trace(3));
        of(39).asks("taken(1, 3)", x -> x.taken(1, 3));
        of(43).asks("read(0, 1)", x -> x.read(0, 1));
    }
}
