import java.util.ArrayList;
import java.util.List;

/** All that can be seen of a fair: some 300 calls, the last of which change it. */
final class Look {
    private final GuessFair x;
    private final List<String> seen = new ArrayList<>();

    private Look(GuessFair x) {
        this.x = x;
    }

    static List<String> at(GuessFair x) {
        Look look = new Look(x);
        look.now();
        look.traceAndTapes();
        look.rows();
        look.sees("law()", x.law());
        look.sees("told(2)", x.told(2));
        look.sees("undo()", x.undo());
        look.now();
        look.rows();
        return look.seen;
    }

    private void sees(String call, long answer) {
        seen.add(call + " = " + answer);
    }

    private void now() {
        for (int what = 0; what < 7; what++) {
            sees("count(" + what + ")", x.count(what));
        }
        for (int what = 0; what < 16; what++) {
            if (what < 4 || what >= 10) {
                sees("told(" + what + ")", x.told(what));
            }
        }
        for (int e = 0; e < 8; e++) {
            for (int what = 0; what < 5; what++) {
                sees("of(" + e + ", " + what + ")", x.of(e, what));
            }
            for (int w = 0; w < 6; w++) {
                sees("pay(" + e + ", " + w + ")", x.pay(e, w));
            }
        }
        sees("left()", x.left());
        sees("looked()", x.looked());
    }

    private void traceAndTapes() {
        for (int i = 0; i < 13; i++) {
            sees("trace(" + i + ")", x.trace(i));
        }
        for (int tape = 0; tape < 6; tape++) {
            for (int i = 0; i < 5; i++) {
                sees("read(" + tape + ", " + i + ")", x.read(tape, i));
            }
        }
    }

    /** What the rows were: they can't be seen but by telling them anew. */
    private void rows() {
        for (int e = 0; e < 4; e++) {
            for (int part = 0; part < 4; part++) {
                sees("row(" + e + ", " + part + ", 0)", x.row(e, part, 0));
            }
        }
    }
}
