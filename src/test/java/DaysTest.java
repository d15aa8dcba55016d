/** Promises 11 to 14, and what each kind pays: told, pass, come, pay. */
public final class DaysTest {
    public static void main(String[] args) {
        told();
        passing();
        coming();
        mostPaid();
        refusals();
        plainAndNear();
        rare();
        late();
        surprising();
        contrary();
        toldOnes();
        Due.end();
    }

    private static void told() {
        GuessFair x = Due.fair(4, 8);
        x.pass(3);
        Due.law(x, "base 13");
        x.envelope(0, 1, 2, 0);
        x.come(1);
        Due.is("11: told(0)", x.told(0), 4);
        Due.is("11: told(1)", x.told(1), 13);
        Due.is("11: told(2)", x.told(2), 13);
        Due.is("11: told(3)", x.told(3), 12);
        Due.is("11: told(10)", x.told(10), 4);
        Due.is("11: told(11)", x.told(11), 8);
        int[] nones = {-1, 4, 9, 12, 16, Integer.MAX_VALUE, Integer.MIN_VALUE};
        for (int what : nones) {
            Due.is("11: told(" + what + ")", x.told(what), GuessFair.NONE);
        }
    }

    private static void passing() {
        GuessFair x = new GuessFair();
        Due.is("12: pass(100)", x.pass(100), GuessFair.BAD);
        Due.is("12: pass(-1)", x.pass(-1), GuessFair.BAD);
        Due.is("12: pass(0)", x.pass(0), 0);
        for (int n = 1; n <= 100; n++) {
            Due.is("12: pass(99), the " + n + ".", x.pass(99), 99 * n);
        }
        Due.is("12: pass(98)", x.pass(98), 9998);
        Due.is("12: pass(2)", x.pass(2), GuessFair.STATE);
        Due.is("12: pass(100) late", x.pass(100), GuessFair.BAD);
        Due.is("12: told(0)", x.told(0), 9998);
        Due.is("12: pass(1)", x.pass(1), 9999);
        Due.is("12: pass(1) on the last day", x.pass(1), GuessFair.STATE);
        Due.is("12: pass(0) on the last day", x.pass(0), 9999);
    }

    private static void coming() {
        GuessFair x = Due.fair(1, 1);
        x.envelope(0, 1, 1, 50);
        x.envelope(3, 2, 3, 50);
        Due.is("13: come(0)", x.come(0), 30);
        Due.is("13: come(0) a day later", x.come(0), 29);
        Due.is("13: come(1)", x.come(1), 18);
        Due.is("13: told(1)", x.told(1), 77);
        Due.is("13: told(0)", x.told(0), 3);
        Due.is("13: worlds stay", x.count(1), 2);
        Due.is("13: envelopes stay", x.count(0), 2);
        Due.is("13: come(2)", x.come(2), GuessFair.NONE);
        Due.is("13: come(-1)", x.come(-1), GuessFair.NONE);
        Due.is("13: told(1) then", x.told(1), 77);
    }

    private static void mostPaid() {
        GuessFair x = Due.fair(1);
        Due.law(x, "base 99;more 99 w=0;more 99 w=0;more 99 w=0;more 99 w=0;more 99 w=0;more 99 w=0");
        for (int n = 0; n < 8; n++) {
            x.envelope(2, 9, 1, 0);
        }
        int each = 8 * (4 * 99 * 9 + 6 * 99);
        for (int n = 1; n <= 310; n++) {
            Due.is("13: come(0), the " + n + ".", x.come(0), each);
            if (n == 300 || n == 301) {
                Due.is("13: PAID, the " + n + ".", x.told(1), n == 300 ? 300 * each : 9999999);
            }
        }
        Due.is("13: PAID is full", x.told(1), 9999999);
    }

    private static void refusals() {
        GuessFair x = Due.fair(1);
        x.envelope(0, 1, 1, 0);
        Due.is("14: pay(1, 0)", x.pay(1, 0), GuessFair.NONE);
        Due.is("14: pay(-1, 0)", x.pay(-1, 0), GuessFair.NONE);
        Due.is("14: pay(0, 1)", x.pay(0, 1), GuessFair.NONE);
        Due.is("14: pay(0, -1)", x.pay(0, -1), GuessFair.NONE);
        for (int n = 0; n < 101; n++) {
            x.pass(99);
        }
        Due.is("13: come(0) on the last day", x.come(0), GuessFair.STATE);
        Due.is("13: come(1) on the last day", x.come(1), GuessFair.NONE);
        Due.is("13: told(1)", x.told(1), 0);
    }

    private static void plainAndNear() {
        GuessFair x = Due.fair(1, 1, 1, 1, 1, 1);
        x.envelope(0, 3, 9, 0);
        Due.pays("14: a plain one", x, 0, 30, 0, 0, 30, 0, 0);
        x.envelope(1, 3, 9, 0);
        Due.pays("14: a near one", x, 1, 30, 15, 15, 30, 15, 0);
        x.envelope(1, 3, 0, 0);
        Due.pays("14: a near one of no world", x, 2, 0, 0, 0, 0, 0, 0);
        x.envelope(1, 3, 32, 0);
        Due.pays("14: a near one of the last world", x, 3, 0, 0, 0, 0, 15, 30);
        Due.law(x, "base 5");
        Due.pays("14: the half, cut", x, 1, 15, 7, 7, 15, 7, 0);
    }

    private static void rare() {
        GuessFair x = Due.fair(1, 1, 1, 1, 1);
        x.envelope(2, 1, 2, 0);
        Due.pays("14: a rare one of one", x, 0, 0, 40, 0, 0, 0);
        x.envelope(2, 1, 7, 0);
        Due.pays("14: a rare one of three, cut", x, 1, 13, 13, 13, 0, 0);
        x.envelope(2, 9, 0, 0);
        Due.pays("14: a rare one of none", x, 2, 0, 0, 0, 0, 0);
    }

    private static void late() {
        GuessFair x = Due.fair(1, 1);
        x.pass(7);
        x.envelope(3, 2, 1, 0);
        Due.pays("14: a late one", x, 0, 20, 0);
        x.pass(6);
        Due.pays("14: a late one after 6 days", x, 0, 14, 0);
        x.pass(15);
        Due.pays("14: a late one after 21 days", x, 0, 0, 0);
        Due.law(x, "more 3 w<2");
        Due.pays("14: what is more comes behind", x, 0, 3, 3);
    }

    private static void surprising() {
        GuessFair x = Due.fair(30, 1, 12);
        x.envelope(4, 3, 1, 0);
        Due.pays("14: surprising, a chance of 30", x, 0, 30, 15, 0);
        x.envelope(4, 3, 6, 0);
        Due.pays("14: surprising, chances of 1 and 12", x, 1, 15, 59, 48);
        x.chance(1, 20);
        Due.pays("14: surprising, a chance of 20 now", x, 1, 15, 40, 48);
    }

    private static void contrary() {
        GuessFair x = Due.fair(1, 1, 1);
        x.envelope(5, 2, 3, 0);
        Due.pays("14: contrary", x, 0, 40, 40, 10);
        x.envelope(5, 2, 0, 0);
        Due.pays("14: contrary of none", x, 1, 10, 10, 10);
        Due.law(x, "base 8;tax 9 w=2");
        Due.pays("14: contrary, taxed", x, 0, 32, 32, 0);
    }

    private static void toldOnes() {
        GuessFair x = Due.fair(1, 1);
        x.pass(1);
        x.envelope(6, 1, 1, 0);
        for (int part = 0; part < 4; part++) {
            x.row(0, part, part + 2);
        }
        Due.pays("14: told, day 1", x, 0, 13, 3);
        x.pass(1);
        Due.pays("14: told, day 2", x, 0, 13, 4);
        x.pass(1);
        Due.pays("14: told, day 3", x, 0, 13, 5);
        x.pass(1);
        Due.pays("14: told, day 4", x, 0, 9, 2);
        x.pass(20);
        Due.pays("14: told, day 24", x, 0, 2, 2);
    }
}
