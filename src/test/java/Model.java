import java.util.ArrayList;
import java.util.List;
import java.util.function.IntPredicate;
import java.util.function.IntUnaryOperator;
import java.util.regex.Matcher;
import java.util.regex.Pattern;

/**
 * The document once more, written in another way with all of the Java library,
 * so that a slip in the one is no slip in the other: laws are read by a regular
 * expression and worked out by rewriting, acts are methods of real subclasses,
 * and all questions try everything.
 */
final class Model {
    static final int NONE = -1, BAD = -2, STATE = -3, FULL = -4;
    static final long NO = Long.MIN_VALUE;
    private static final Pattern CLAUSE_PARTS = Pattern.compile("(more|tax) (\\d+) (.*)|base (\\d+)");
    private static final Pattern LAW = Pattern.compile(lawPattern());
    private static final Pattern TEST = Pattern.compile("([ekswcd])([<=>])(\\d+)");

    private static String lawPattern() {
        String test = "[ekswcd][<=>]\\d\\d?";
        String one = test;
        for (int n = 0; n < 4; n++) {
            String any = "(?:" + one + ")(?:[&|](?:" + one + "))*";
            one = "(?:" + test + "|!(?:" + one + ")|\\(" + any + "\\))";
        }
        String clause = "(?:base \\d\\d?|(?:more|tax) \\d\\d? " + one + "(?:[&|]" + one + ")*)";
        return clause + "(?:;" + clause + "){0,9}";
    }

    static class Plain {
        final List<Integer> ran;
        final int i;
        final int v;

        Plain(List<Integer> ran, int i, int v) {
            this.ran = ran;
            this.i = i;
            this.v = v;
        }

        int seals(int x) { ran.add(10); return x + i; }
        int pays(int x) { ran.add(11); return seals(x) - v; }
        int tells(int x) { ran.add(12); return pays(x) * 2; }
    }

    static class Near extends Plain {
        Near(List<Integer> ran, int i, int v) { super(ran, i, v); }
        @Override int pays(int x) { ran.add(20); return super.pays(x) ^ 6; }
    }

    static class Rare extends Plain {
        Rare(List<Integer> ran, int i, int v) { super(ran, i, v); }
        @Override int seals(int x) { ran.add(30); return super.seals(x * 3); }
    }

    static class Late extends Plain {
        Late(List<Integer> ran, int i, int v) { super(ran, i, v); }
        @Override int tells(int x) { ran.add(40); return super.tells(x) + pays(1); }
    }

    static class Surprising extends Near {
        Surprising(List<Integer> ran, int i, int v) { super(ran, i, v); }
        @Override int seals(int x) { ran.add(50); return -super.seals(x); }
        @Override int pays(int x) { ran.add(51); return super.pays(x + 1); }
    }

    static class Contrary extends Rare {
        Contrary(List<Integer> ran, int i, int v) { super(ran, i, v); }
        @Override int tells(int x) { ran.add(60); return super.tells(x - i); }
    }

    static class Told extends Late {
        Told(List<Integer> ran, int i, int v) { super(ran, i, v); }
        @Override int pays(int x) { ran.add(70); return super.pays(x) + super.seals(2); }
        @Override int seals(int x) { ran.add(71); return super.seals(x) ^ v; }
    }

    record Envelope(int number, int kind, int v, int saying, int price, int came, List<Integer> row) {
        boolean isTrue(int world) {
            return (saying & 1 << world) != 0;
        }

        Envelope with(int newSaying, int newPrice, List<Integer> newRow) {
            return new Envelope(number, kind, v, newSaying, newPrice, came, newRow);
        }
    }

    record Image(List<Integer> chances, List<Envelope> envelopes, int day, int paid, List<int[]> opened, List<int[]> book, String law) {
    }

    private List<Integer> chances = new ArrayList<>();
    private List<Envelope> envelopes = new ArrayList<>();
    private int day;
    private int paid;
    private List<int[]> opened = new ArrayList<>();
    private List<int[]> book = new ArrayList<>();
    private String law = "";
    private int laws;
    private String text = "";
    private Image image;
    private final List<Integer> ran = new ArrayList<>();
    private final long[][] tapes = new long[6][];
    private final int[] sorts = new int[6];

    private boolean isWorld(int w) { return w >= 0 && w < chances.size(); }
    private boolean isEnvelope(int e) { return e >= 0 && e < envelopes.size(); }
    private static boolean in(int n, int least, int most) { return n >= least && n <= most; }
    private boolean isSaying(int s) { return in(s, 0, (1 << chances.size()) - 1); }
    private boolean isSet(int s) { return in(s, 0, (1 << envelopes.size()) - 1); }

    int world(int chance) {
        if (!in(chance, 1, 30)) return BAD;
        if (chances.size() == 6) return FULL;
        chances.add(chance);
        return chances.size() - 1;
    }

    int chance(int world, int n) {
        if (!isWorld(world)) return NONE;
        return in(n, 1, 30) ? chances.set(world, n) : BAD;
    }

    int envelope(int kind, int v, int saying, int price) {
        if (!in(kind, 0, 6)) return NONE;
        if (!in(v, 0, 9) || !isSaying(saying) || !in(price, 0, 99)) return BAD;
        if (envelopes.size() == 8) return FULL;
        envelopes.add(new Envelope(envelopes.size(), kind, v, saying, price, day, List.of(0, 0, 0, 0)));
        return envelopes.size() - 1;
    }

    int of(int envelope, int what) {
        if (!isEnvelope(envelope) || !in(what, 0, 4)) return NONE;
        Envelope e = envelopes.get(envelope);
        return new int[] {e.kind, e.v, e.saying, e.price, day - e.came}[what];
    }

    int price(int envelope, int n) {
        if (!isEnvelope(envelope)) return NONE;
        if (!in(n, 0, 99)) return BAD;
        Envelope e = envelopes.get(envelope);
        envelopes.set(envelope, e.with(e.saying, n, e.row));
        return e.price;
    }

    int say(int envelope, int saying) {
        if (!isEnvelope(envelope)) return NONE;
        if (!isSaying(saying)) return BAD;
        Envelope e = envelopes.get(envelope);
        envelopes.set(envelope, e.with(saying, e.price, e.row));
        return e.saying;
    }

    int row(int envelope, int part, int n) {
        if (!isEnvelope(envelope) || !in(part, 0, 3)) return NONE;
        if (!in(n, 0, 9)) return BAD;
        Envelope e = envelopes.get(envelope);
        if (e.kind != 6) return STATE;
        List<Integer> row = new ArrayList<>(e.row);
        int was = row.set(part, n);
        envelopes.set(envelope, e.with(e.saying, e.price, row));
        return was;
    }

    int feed(int sign) {
        if (!in(sign, 0, 127)) return BAD;
        if (text.length() == 100) return FULL;
        text += (char) sign;
        return text.length();
    }

    int law() {
        if (laws == 6) return FULL;
        String was = text;
        text = "";
        if (LAW.matcher(was).matches()) {
            law = was;
            return laws++;
        }
        for (int n = 1; n <= was.length(); n++) {
            Matcher m = LAW.matcher(was.substring(0, n));
            if (!m.matches() && !m.hitEnd()) return -10 - (n - 1);
        }
        return -10 - was.length();
    }

    private int base() {
        int base = 10;
        for (String clause : law.split(";")) {
            if (clause.startsWith("base ")) base = Integer.parseInt(clause.substring(5));
        }
        return base;
    }

    private int extra(Envelope e, int world, int at) {
        int sum = 0;
        for (String clause : law.split(";")) {
            Matcher m = CLAUSE_PARTS.matcher(clause);
            if (m.matches() && m.group(1) != null && holds(m.group(3), e, world, at)) {
                int n = Integer.parseInt(m.group(2));
                sum += m.group(1).equals("more") ? n : -n;
            }
        }
        return sum;
    }

    private boolean holds(String all, Envelope e, int world, int at) {
        String rest = TEST.matcher(all).replaceAll(r -> {
            int n = switch (r.group(1).charAt(0)) {
                case 'e' -> e.number;
                case 'k' -> e.kind;
                case 's' -> Integer.bitCount(e.saying);
                case 'w' -> world;
                case 'c' -> chances.get(world);
                default -> Math.min(99, at - e.came);
            };
            int sign = Integer.signum(Integer.compare(n, Integer.parseInt(r.group(3))));
            return "<=>".charAt(sign + 1) == r.group(2).charAt(0) ? "T" : "F";
        });
        for (String before = ""; !before.equals(rest);) {
            before = rest;
            rest = rest.replace("!T", "F").replace("!F", "T");
            if (before.equals(rest)) rest = rest.replace("(T)", "T").replace("(F)", "F");
            if (before.equals(rest)) rest = rest.replaceFirst("T&T", "T");
            if (before.equals(rest)) rest = rest.replaceFirst("F&[TF]|T&F", "F");
            if (before.equals(rest)) rest = rest.replaceFirst("(?<!&)(T\\|[TF]|F\\|T)(?!&)", "T");
            if (before.equals(rest)) rest = rest.replaceFirst("(?<!&)F\\|F(?!&)", "F");
        }
        return rest.equals("T");
    }

    int told(int what) {
        if (in(what, 10, 15) && isWorld(what - 10)) return chances.get(what - 10);
        if (!in(what, 0, 3)) return NONE;
        return new int[] {day, paid, base(), chanceOf(w -> true)}[what];
    }

    private int chanceOf(IntPredicate which) {
        int sum = 0;
        for (int w = 0; w < chances.size(); w++) sum += which.test(w) ? chances.get(w) : 0;
        return sum;
    }

    int pass(int n) {
        if (!in(n, 0, 99)) return BAD;
        if (day + n > 9999) return STATE;
        return day += n;
    }

    int come(int world) {
        if (!isWorld(world)) return NONE;
        if (day == 9999) return STATE;
        int sum = 0;
        for (Envelope e : envelopes) sum += payOf(e, world, day);
        paid = Math.min(9999999, paid + sum);
        day++;
        return sum;
    }

    private int payOf(Envelope e, int world, int at) {
        int full = base() * e.v;
        int said = Integer.bitCount(e.saying);
        boolean is = e.isTrue(world);
        boolean isBeside = world > 0 && e.isTrue(world - 1) || e.isTrue(world + 1);
        int old = at - e.came;
        int gross = switch (e.kind) {
            case 0 -> is ? full : 0;
            case 1 -> is ? full : isBeside ? full / 2 : 0;
            case 2 -> is ? 4 * full / said : 0;
            case 3 -> Math.max(0, (is ? full : 0) - old);
            case 4 -> is ? full + 30 - chances.get(world) : isBeside ? full / 2 : 0;
            case 5 -> is ? 4 * full / said : base();
            default -> Math.max(0, (is ? full : 0) - old) + e.row.get(at % 4);
        };
        return Math.max(0, gross + extra(e, world, at));
    }

    int pay(int envelope, int world) {
        return isEnvelope(envelope) && isWorld(world) ? payOf(envelopes.get(envelope), world, day) : NONE;
    }

    private int weighed(Envelope e, int at) {
        int sum = 0;
        for (int w = 0; w < chances.size(); w++) sum += payOf(e, w, at) * chances.get(w);
        return sum;
    }

    private static long lowest(int above, int below, int part) {
        if (below == 0 || !in(part, 0, 1)) return NO;
        int by = below;
        while (above % by != 0 || below % by != 0) by--;
        return (part == 0 ? above : below) / by;
    }

    long mean(int envelope, int part) {
        return isEnvelope(envelope) ? lowest(weighed(envelopes.get(envelope), day), chanceOf(w -> true), part) : NO;
    }

    private int gainOf(int set, int world) {
        int sum = 0;
        for (Envelope e : envelopes) {
            if ((set & 1 << e.number) != 0) sum += payOf(e, world, day) - e.price;
        }
        return sum;
    }

    int gain(int set, int world) {
        if (!isWorld(world)) return -100001;
        return isSet(set) ? gainOf(set, world) : -100002;
    }

    private int[] gains(int set) {
        int[] all = new int[chances.size()];
        for (int w = 0; w < all.length; w++) all[w] = gainOf(set, w);
        return all;
    }

    private int leastOf(int set) {
        return java.util.stream.IntStream.of(gains(set)).min().orElse(0);
    }

    int least(int set) {
        return isSet(set) ? leastOf(set) : -100002;
    }

    int open(int envelope, boolean isTrue) {
        if (envelope == -1) {
            opened.clear();
            return 0;
        }
        if (!isEnvelope(envelope)) return NONE;
        if (opened.size() == 8) return FULL;
        opened.add(new int[] {envelope, isTrue ? 1 : 0});
        return opened.size();
    }

    private boolean isLeft(int world) {
        return opened.stream().allMatch(o -> envelopes.get(o[0]).isTrue(world) == (o[1] == 1));
    }

    int left() {
        int set = 0;
        for (int w = 0; w < chances.size(); w++) set |= isLeft(w) ? 1 << w : 0;
        return set;
    }

    long odds(int envelope, int part) {
        if (!isEnvelope(envelope)) return NO;
        return lowest(chanceOf(w -> isLeft(w) && envelopes.get(envelope).isTrue(w)), chanceOf(this::isLeft), part);
    }

    int knew() {
        int set = 0;
        for (Envelope e : envelopes) set |= left() != 0 && (left() & e.saying) == left() ? 1 << e.number : 0;
        return set;
    }

    /** The least of the numbers up to most by which a worth is greatest. */
    private static int first(int most, IntUnaryOperator worth) {
        int found = 0;
        int greatest = worth.applyAsInt(0);
        for (int n = 1; n <= most; n++) {
            int one = worth.applyAsInt(n);
            if (one > greatest) {
                greatest = one;
                found = n;
            }
        }
        return found;
    }

    int best(int envelope, int what) {
        if (!isEnvelope(envelope) || !in(what, 0, 1)) return NONE;
        Envelope e = envelopes.get(envelope);
        IntUnaryOperator worth = s -> weighed(e.with(s, e.price, e.row), day);
        int saying = first((1 << chances.size()) - 1, worth);
        return what == 0 ? saying : worth.applyAsInt(saying);
    }

    int safest(int what) {
        if (!in(what, 0, 1)) return -100001;
        int set = first((1 << envelopes.size()) - 1, this::leastOf);
        return what == 0 ? set : leastOf(set);
    }

    int sure() {
        return first((1 << envelopes.size()) - 1, s -> leastOf(s) > 0 ? 1 : 0);
    }

    int hedge() {
        if (envelopes.size() < 2 || chances.isEmpty()) return -5;
        IntUnaryOperator narrow = n -> {
            int a = n / 10;
            int b = n % 10;
            if (a >= b || !isEnvelope(b)) return Integer.MIN_VALUE;
            int[] all = gains(1 << a | 1 << b);
            java.util.Arrays.sort(all);
            return all[0] - all[all.length - 1];
        };
        return first(79, narrow);
    }

    int against(int envelope) {
        if (!isEnvelope(envelope)) return NONE;
        int set = 0;
        for (Envelope e : envelopes) {
            boolean isAgainst = e.number != envelope;
            for (int w = 0; w < 6; w++) isAgainst &= !e.isTrue(w) || !envelopes.get(envelope).isTrue(w);
            set |= isAgainst ? 1 << e.number : 0;
        }
        return set;
    }

    int when(int envelope, int n, int what) {
        if (!isEnvelope(envelope) || !in(what, 0, 1)) return NONE;
        if (!in(n, 0, 60)) return BAD;
        IntUnaryOperator worth = k -> weighed(envelopes.get(envelope), day + k);
        int k = first(n, worth);
        return what == 0 ? k : worth.applyAsInt(k);
    }

    int crowd(int what) {
        if (!in(what, 0, 1)) return NONE;
        if (chances.isEmpty()) return -5;
        IntUnaryOperator worth = w -> envelopes.stream().filter(e -> e.isTrue(w)).mapToInt(Envelope::price).sum();
        int world = first(chances.size() - 1, worth);
        return what == 0 ? world : worth.applyAsInt(world);
    }

    int cheap() {
        int set = 0;
        double all = chanceOf(w -> true);
        for (Envelope e : envelopes) set |= all > 0 && e.price < weighed(e, day) / all ? 1 << e.number : 0;
        return set;
    }

    int burnt(int envelope) {
        if (!isEnvelope(envelope)) return -100001;
        int all = (1 << envelopes.size()) - 1;
        return leastOf(all - (1 << envelope)) - leastOf(all);
    }

    int worth(int n) {
        if (!in(n, 0, 99)) return BAD;
        int found = 0;
        for (Envelope e : envelopes) {
            int most = -1;
            for (int w = 0; w < chances.size(); w++) most = Math.max(most, payOf(e, w, day));
            found += most >= n ? 1 : 0;
        }
        return found;
    }

    int book(int envelope, int world, int pay) {
        if (envelope == -1) {
            book.clear();
            return 0;
        }
        if (!isEnvelope(envelope) || !isWorld(world)) return NONE;
        if (!in(pay, 0, 9999)) return BAD;
        if (book.size() == 8) return FULL;
        book.add(new int[] {envelope, world, pay});
        return book.size();
    }

    int looked() {
        for (int n = 0; n < book.size(); n++) {
            int[] row = book.get(n);
            if (pay(row[0], row[1]) != row[2]) return n;
        }
        return -5;
    }

    int judge(int tape, int i) {
        if (!in(tape, 0, 5)) return NONE;
        if (tapes[tape] != null && sorts[tape] != 3) return -12;
        if (envelopes.isEmpty()) return -5;
        if (tapes[tape] == null || i < 0) return 100;
        for (Envelope e : envelopes) {
            if ((long) i + e.number >= tapes[tape].length) return 100 + e.number;
            if (tapes[tape][i + e.number] != e.price) return e.number;
        }
        return -5;
    }

    int image() {
        image = new Image(List.copyOf(chances), List.copyOf(envelopes), day, paid, List.copyOf(opened), List.copyOf(book), law);
        return envelopes.size();
    }

    int undo() {
        if (image == null) return STATE;
        chances = new ArrayList<>(image.chances);
        envelopes = new ArrayList<>(image.envelopes);
        day = image.day;
        paid = image.paid;
        opened = new ArrayList<>(image.opened);
        book = new ArrayList<>(image.book);
        law = image.law;
        return envelopes.size();
    }

    private Plain plain(Envelope e) {
        return switch (e.kind) {
            case 0 -> new Plain(ran, e.number, e.v);
            case 1 -> new Near(ran, e.number, e.v);
            case 2 -> new Rare(ran, e.number, e.v);
            case 3 -> new Late(ran, e.number, e.v);
            case 4 -> new Surprising(ran, e.number, e.v);
            case 5 -> new Contrary(ran, e.number, e.v);
            default -> new Told(ran, e.number, e.v);
        };
    }

    int act(int envelope, int act, int x) {
        ran.clear();
        if (!isEnvelope(envelope) || !in(act, 0, 2)) return 0;
        Plain p = plain(envelopes.get(envelope));
        return act == 0 ? p.seals(x) : act == 1 ? p.pays(x) : p.tells(x);
    }

    int trace(int i) {
        return in(i, 0, Math.min(20, ran.size()) - 1) ? ran.get(i) : NONE;
    }

    int taken(int envelope, int k) {
        if (!in(k, 0, 6)) return BAD;
        if (!isEnvelope(envelope)) return -11;
        Class<?>[] kinds = {Plain.class, Near.class, Rare.class, Late.class, Surprising.class, Contrary.class, Told.class};
        return kinds[k].isInstance(plain(envelopes.get(envelope))) ? envelopes.get(envelope).kind : -12;
    }

    int count(int what) {
        int[] all = {envelopes.size(), chances.size(), laws, opened.size(), book.size(), text.length(), ran.size()};
        return in(what, 0, 6) ? all[what] : BAD;
    }

    int tape(int tape, int sort, int n) {
        if (!in(tape, 0, 5)) return NONE;
        if (!in(sort, -1, 4) || sort >= 0 && n > 60) return BAD;
        if (sort >= 0 && n < 0) return -14;
        tapes[tape] = sort < 0 ? null : new long[n];
        sorts[tape] = sort;
        return 1;
    }

    int item(int tape, int i, long v) {
        if (!in(tape, 0, 5)) return NONE;
        if (tapes[tape] == null) return -11;
        if (!in(i, 0, tapes[tape].length - 1)) return -13;
        tapes[tape][i] = new long[] {(byte) v, (short) v, (int) v, v, v == 0 ? 0 : 1}[sorts[tape]];
        return 1;
    }

    long read(int tape, int i) {
        return in(tape, 0, 5) && tapes[tape] != null && in(i, 0, tapes[tape].length - 1) ? tapes[tape][i] : NO;
    }

    int shift(int tape, int i, int other, int j, int n) {
        if (!in(tape, 0, 5) || !in(other, 0, 5)) return NONE;
        if (tapes[tape] == null || tapes[other] == null) return -11;
        if (sorts[tape] != sorts[other]) return -12;
        boolean isPlace = n >= 0 && i >= 0 && j >= 0 && (long) i + n <= tapes[tape].length && (long) j + n <= tapes[other].length;
        if (!isPlace) return -13;
        long[] before = tapes[tape].clone();
        for (int k = 0; k < n; k++) tapes[other][j + k] = before[i + k];
        return n;
    }
}
