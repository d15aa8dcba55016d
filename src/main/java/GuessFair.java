/** Only guesses are sold: worlds that may come, and envelopes that say which of them. */
public final class GuessFair {
    public static final int NONE = -1, BAD = -2, STATE = -3, FULL = -4;
    public static final long NO = Long.MIN_VALUE;

    private static final int NEITHER = -5;
    private static final int NOTHING = -11, CAST = -12, PLACE = -13, SIZE = -14;
    private static final int NO_GAIN = -100001, BAD_SET = -100002;

    private static final int WORLDS = 6, ENVELOPES = 8, LAWS = 6, TOLD_ROWS = 8, TAPES = 6;
    private static final int TEXT = 100, CLAUSES = 10, NESTED = 4, FACTS = 6, ROW = 4;
    private static final int ITEMS = 60, TRACED = 20, DEEPEST_ACT = 40, EUCLID_STEPS = 64;
    private static final int CHANCE_MOST = 30, V_MOST = 9, PRICE_MOST = 99, DAYS_AT_ONCE = 99;
    private static final int LAST_DAY = 9999, PAID_MOST = 9999999, OLD_MOST = 99;
    private static final int BOOKED_MOST = 9999, WAIT_MOST = 60, WORTH_MOST = 99;
    private static final int PLAIN_BASE = 10, SURPRISE = 30, FAULT_AHEAD = -10, ROW_ENDED = 100;

    private static final int ENVELOPE = 0, NEAR = 1, RARE = 2, LATE = 3;
    private static final int SURPRISING = 4, CONTRARY = 5, TOLD = 6;
    /** For each KIND the one that it is under. */
    private static final int[] ABOVE = {NONE, ENVELOPE, ENVELOPE, ENVELOPE, NEAR, RARE, LATE};

    private final Fair fair;
    private final Fair kept;
    private boolean hasImage;
    private final Laws laws;
    private final Payer payer;
    private final Stakes stakes;
    private final Acts acts;
    private final Tapes tapes;

    public GuessFair() {
        fair = new Fair();
        kept = new Fair();
        laws = new Laws();
        payer = new Payer(fair, laws);
        stakes = new Stakes(fair, payer);
        acts = new Acts();
        tapes = new Tapes();
    }

    // ---- worlds, envelopes, laws

    public int world(int chance) {
        if (!isChance(chance)) {
            return BAD;
        }
        return fair.addWorld(chance);
    }

    public int chance(int world, int n) {
        if (!fair.hasWorld(world)) {
            return NONE;
        }
        if (!isChance(n)) {
            return BAD;
        }
        int was = fair.chances[world];
        fair.chances[world] = n;
        return was;
    }

    public int envelope(int kind, int v, int saying, int price) {
        if (!isUpTo(kind, TOLD)) {
            return NONE;
        }
        if (!isUpTo(v, V_MOST) || !isWithin(saying, fair.worlds) || !isUpTo(price, PRICE_MOST)) {
            return BAD;
        }
        return fair.addEnvelope(kind, v, saying, price);
    }

    public int of(int envelope, int what) {
        Envelope e = fair.find(envelope);
        if (e == null) {
            return NONE;
        }
        switch (what) {
            case 0: return e.kind;
            case 1: return e.v;
            case 2: return e.saying;
            case 3: return e.price;
            case 4: return fair.day - e.born;
            default: return NONE;
        }
    }

    public int price(int envelope, int n) {
        Envelope e = fair.find(envelope);
        if (e == null) {
            return NONE;
        }
        if (!isUpTo(n, PRICE_MOST)) {
            return BAD;
        }
        int was = e.price;
        e.price = n;
        return was;
    }

    public int say(int envelope, int saying) {
        Envelope e = fair.find(envelope);
        if (e == null) {
            return NONE;
        }
        if (!isWithin(saying, fair.worlds)) {
            return BAD;
        }
        int was = e.saying;
        e.saying = saying;
        return was;
    }

    public int row(int envelope, int part, int n) {
        Envelope e = fair.find(envelope);
        if (e == null || part < 0 || part >= ROW) {
            return NONE;
        }
        if (!isUpTo(n, V_MOST)) {
            return BAD;
        }
        if (e.kind != TOLD) {
            return STATE;
        }
        int was = e.row[part];
        e.row[part] = n;
        return was;
    }

    public int feed(int sign) {
        if (!isUpTo(sign, 127)) {
            return BAD;
        }
        return laws.addSign(sign);
    }

    public int law() {
        int answer = laws.enact();
        if (answer >= 0) {
            fair.law = answer;
        }
        return answer;
    }

    public int told(int what) {
        if (what >= 10 && fair.hasWorld(what - 10)) {
            return fair.chances[what - 10];
        }
        switch (what) {
            case 0: return fair.day;
            case 1: return fair.paid;
            case 2: return laws.baseOf(fair.law);
            case 3: return fair.chancesOf(fair.allWorlds());
            default: return NONE;
        }
    }

    // ---- days, worlds that come

    public int pass(int n) {
        if (!isUpTo(n, DAYS_AT_ONCE)) {
            return BAD;
        }
        if (fair.day + n > LAST_DAY) {
            return STATE;
        }
        fair.day += n;
        return fair.day;
    }

    public int come(int world) {
        if (!fair.hasWorld(world)) {
            return NONE;
        }
        if (fair.day >= LAST_DAY) {
            return STATE;
        }
        int sum = payer.sumIn(world);
        fair.paid = Math.min(PAID_MOST, fair.paid + sum);
        fair.day++;
        return sum;
    }

    public int pay(int envelope, int world) {
        Envelope e = fair.find(envelope);
        if (e == null || !fair.hasWorld(world)) {
            return NONE;
        }
        return payer.payNow(e, world);
    }

    // ---- means, gains; part 0 above, 1 below the line

    public long mean(int envelope, int part) {
        Envelope e = fair.find(envelope);
        if (e == null) {
            return NO;
        }
        return fractionPart(payer.weighedNow(e), fair.chancesOf(fair.allWorlds()), part);
    }

    public int gain(int set, int world) {
        if (!fair.hasWorld(world)) {
            return NO_GAIN;
        }
        if (!isWithin(set, fair.envelopes)) {
            return BAD_SET;
        }
        stakes.lookAgain();
        return stakes.gainOf(set, world);
    }

    public int least(int set) {
        if (!isWithin(set, fair.envelopes)) {
            return BAD_SET;
        }
        stakes.lookAgain();
        return stakes.leastOf(set);
    }

    // ---- what was opened

    public int open(int envelope, boolean isTrue) {
        if (envelope == -1) {
            return fair.opened.empty();
        }
        if (fair.find(envelope) == null) {
            return NONE;
        }
        return fair.opened.add(envelope, isTrue ? 1 : 0, 0);
    }

    public int left() {
        return fair.leftWorlds();
    }

    public long odds(int envelope, int part) {
        Envelope e = fair.find(envelope);
        if (e == null) {
            return NO;
        }
        int left = fair.leftWorlds();
        return fractionPart(fair.chancesOf(left & e.saying), fair.chancesOf(left), part);
    }

    public int knew() {
        return fair.trueInAll(fair.leftWorlds());
    }

    // ---- what is best

    public int best(int envelope, int what) {
        Envelope e = fair.find(envelope);
        if (e == null || !isUpTo(what, 1)) {
            return NONE;
        }
        int saying = payer.bestSaying(e);
        return what == 0 ? saying : payer.weighed(e, saying, fair.day);
    }

    public int safest(int what) {
        if (!isUpTo(what, 1)) {
            return NO_GAIN;
        }
        stakes.lookAgain();
        int set = stakes.safestSet();
        return what == 0 ? set : stakes.leastOf(set);
    }

    public int sure() {
        stakes.lookAgain();
        return stakes.sureSet();
    }

    public int hedge() {
        if (fair.envelopes < 2 || fair.worlds == 0) {
            return NEITHER;
        }
        stakes.lookAgain();
        return stakes.closestTwo();
    }

    public int against(int envelope) {
        Envelope e = fair.find(envelope);
        if (e == null) {
            return NONE;
        }
        return fair.othersFalseWith(e);
    }

    public int when(int envelope, int n, int what) {
        Envelope e = fair.find(envelope);
        if (e == null || !isUpTo(what, 1)) {
            return NONE;
        }
        if (!isUpTo(n, WAIT_MOST)) {
            return BAD;
        }
        int days = payer.bestWait(e, n);
        return what == 0 ? days : payer.weighed(e, e.saying, fair.day + days);
    }

    public int crowd(int what) {
        if (!isUpTo(what, 1)) {
            return NONE;
        }
        if (fair.worlds == 0) {
            return NEITHER;
        }
        int world = fair.dearestWorld();
        return what == 0 ? world : fair.pricesIn(world);
    }

    public int cheap() {
        return payer.belowMean();
    }

    public int burnt(int envelope) {
        if (fair.find(envelope) == null) {
            return NO_GAIN;
        }
        stakes.lookAgain();
        int all = fair.allEnvelopes();
        return stakes.leastOf(all & ~(1 << envelope)) - stakes.leastOf(all);
    }

    public int worth(int n) {
        if (!isUpTo(n, WORTH_MOST)) {
            return BAD;
        }
        return payer.payingAtLeast(n);
    }

    // ---- books

    public int book(int envelope, int world, int pay) {
        if (envelope == -1) {
            return fair.book.empty();
        }
        if (fair.find(envelope) == null || !fair.hasWorld(world)) {
            return NONE;
        }
        if (!isUpTo(pay, BOOKED_MOST)) {
            return BAD;
        }
        return fair.book.add(envelope, world, pay);
    }

    public int looked() {
        return payer.firstOtherwise();
    }

    // ---- judging, the image, acts, tapes

    public int judge(int tape, int i) {
        if (!tapes.has(tape)) {
            return NONE;
        }
        if (tapes.holds(tape) && !tapes.isOfLongs(tape)) {
            return CAST;
        }
        for (int n = 0; n < fair.envelopes; n++) {
            // i + n may wrap only where i itself is no place, and then n = 0 has answered.
            if (!tapes.hasPlace(tape, i + n)) {
                return ROW_ENDED + n;
            }
            if (tapes.valueAt(tape, i + n) != fair.envelope[n].price) {
                return n;
            }
        }
        return NEITHER;
    }

    public int image() {
        kept.becomeAs(fair);
        hasImage = true;
        return fair.envelopes;
    }

    public int undo() {
        if (!hasImage) {
            return STATE;
        }
        fair.becomeAs(kept);
        return fair.envelopes;
    }

    public int act(int envelope, int act, int x) {
        acts.forget();
        Envelope e = fair.find(envelope);
        if (e == null || !isUpTo(act, Acts.TELLS)) {
            return 0;
        }
        return acts.perform(e, act, x);
    }

    public int trace(int i) {
        return acts.traced(i);
    }

    public int taken(int envelope, int k) {
        if (!isUpTo(k, TOLD)) {
            return BAD;
        }
        Envelope e = fair.find(envelope);
        if (e == null) {
            return NOTHING;
        }
        return isUnder(e.kind, k) ? e.kind : CAST;
    }

    public int count(int what) {
        switch (what) {
            case 0: return fair.envelopes;
            case 1: return fair.worlds;
            case 2: return laws.enacted;
            case 3: return fair.opened.rows;
            case 4: return fair.book.rows;
            case 5: return laws.signs;
            case 6: return acts.ran;
            default: return BAD;
        }
    }

    public int tape(int tape, int sort, int n) {
        if (!tapes.has(tape)) {
            return NONE;
        }
        if (sort == Tapes.EMPTY) {
            tapes.remake(tape, sort, 0);
            return 1;
        }
        if (!isUpTo(sort, Tapes.BOOLEANS) || n > ITEMS) {
            return BAD;
        }
        if (n < 0) {
            return SIZE;
        }
        tapes.remake(tape, sort, n);
        return 1;
    }

    public int item(int tape, int i, long v) {
        if (!tapes.has(tape)) {
            return NONE;
        }
        if (!tapes.holds(tape)) {
            return NOTHING;
        }
        if (!tapes.hasPlace(tape, i)) {
            return PLACE;
        }
        tapes.put(tape, i, v);
        return 1;
    }

    public long read(int tape, int i) {
        if (!tapes.has(tape) || !tapes.hasPlace(tape, i)) {
            return NO;
        }
        return tapes.valueAt(tape, i);
    }

    public int shift(int tape, int i, int other, int j, int n) {
        if (!tapes.has(tape) || !tapes.has(other)) {
            return NONE;
        }
        if (!tapes.holds(tape) || !tapes.holds(other)) {
            return NOTHING;
        }
        if (tapes.sort[tape] != tapes.sort[other]) {
            return CAST;
        }
        if (!tapes.hasPlaces(tape, i, n) || !tapes.hasPlaces(other, j, n)) {
            return PLACE;
        }
        System.arraycopy(tapes.items[tape], i, tapes.items[other], j, n);
        return n;
    }

    // ---- what the classes below share

    private static boolean isUpTo(int n, int most) {
        return n >= 0 && n <= most;
    }

    private static boolean isChance(int n) {
        return n >= 1 && n <= CHANCE_MOST;
    }

    /** Whether a set has no other bits than those of the first count numbers. */
    private static boolean isWithin(int set, int count) {
        return set >> count == 0;
    }

    private static boolean hasBit(int set, int n) {
        return (set >> n & 1) != 0;
    }

    private static boolean isUnder(int kind, int k) {
        int at = kind;
        for (int n = 0; n < ABOVE.length; n++) {
            if (at == k) {
                return true;
            }
            if (at < 0 || at >= ABOVE.length) {
                return false;
            }
            at = ABOVE[at];
        }
        return false;
    }

    private static long fractionPart(int above, int below, int part) {
        if (!isUpTo(part, 1) || below <= 0) {
            return NO;
        }
        int shared = greatestShared(below, above);
        if (shared <= 0) {
            return NO;
        }
        return (part == 0 ? above : below) / shared;
    }

    private static int greatestShared(int a, int b) {
        int one = a;
        int rest = b;
        for (int n = 0; n < EUCLID_STEPS && rest != 0; n++) {
            int next = one % rest;
            one = rest;
            rest = next;
        }
        return one;
    }

    private static final class Envelope {
        final int number;
        int kind;
        int v;
        int saying;
        int price;
        int born;
        final int[] row = new int[ROW];

        Envelope(int number) {
            this.number = number;
        }

        void becomeAs(Envelope other) {
            kind = other.kind;
            v = other.v;
            saying = other.saying;
            price = other.price;
            born = other.born;
            System.arraycopy(other.row, 0, row, 0, ROW);
        }
    }

    /** Rows of three numbers, told by hand. */
    private static final class Rows {
        static final int WIDTH = 3;
        int rows;
        final int[] cells = new int[TOLD_ROWS * WIDTH];

        int empty() {
            rows = 0;
            return rows;
        }

        int add(int first, int second, int third) {
            if (rows >= TOLD_ROWS) {
                return FULL;
            }
            int at = rows * WIDTH;
            cells[at] = first;
            cells[at + 1] = second;
            cells[at + 2] = third;
            rows++;
            return rows;
        }

        int cell(int row, int column) {
            int at = row * WIDTH + column;
            return at >= 0 && at < cells.length ? cells[at] : 0;
        }

        void becomeAs(Rows other) {
            rows = other.rows;
            System.arraycopy(other.cells, 0, cells, 0, cells.length);
        }
    }

    /** All that an image keeps. */
    private static final class Fair {
        int worlds;
        final int[] chances = new int[WORLDS];
        int envelopes;
        final Envelope[] envelope = new Envelope[ENVELOPES];
        int day;
        int paid;
        int law = NONE;
        final Rows opened = new Rows();
        final Rows book = new Rows();

        Fair() {
            for (int n = 0; n < ENVELOPES; n++) {
                envelope[n] = new Envelope(n);
            }
        }

        void becomeAs(Fair other) {
            worlds = other.worlds;
            System.arraycopy(other.chances, 0, chances, 0, WORLDS);
            envelopes = other.envelopes;
            for (int n = 0; n < ENVELOPES; n++) {
                envelope[n].becomeAs(other.envelope[n]);
            }
            day = other.day;
            paid = other.paid;
            law = other.law;
            opened.becomeAs(other.opened);
            book.becomeAs(other.book);
        }

        int addWorld(int chance) {
            if (worlds >= WORLDS) {
                return FULL;
            }
            chances[worlds] = chance;
            worlds++;
            return worlds - 1;
        }

        int addEnvelope(int kind, int v, int saying, int price) {
            if (envelopes >= ENVELOPES) {
                return FULL;
            }
            Envelope e = envelope[envelopes];
            e.kind = kind;
            e.v = v;
            e.saying = saying;
            e.price = price;
            e.born = day;
            for (int part = 0; part < ROW; part++) {
                e.row[part] = 0;
            }
            envelopes++;
            return e.number;
        }

        boolean hasWorld(int world) {
            return world >= 0 && world < worlds;
        }

        /** The envelope of that number; null: there is none. */
        Envelope find(int number) {
            return number >= 0 && number < envelopes ? envelope[number] : null;
        }

        int allWorlds() {
            return (1 << worlds) - 1;
        }

        int allEnvelopes() {
            return (1 << envelopes) - 1;
        }

        int chancesOf(int set) {
            int sum = 0;
            for (int w = 0; w < worlds; w++) {
                if (hasBit(set, w)) {
                    sum += chances[w];
                }
            }
            return sum;
        }

        int leftWorlds() {
            int left = allWorlds();
            for (int n = 0; n < opened.rows; n++) {
                Envelope e = find(opened.cell(n, 0));
                if (e != null) {
                    left &= opened.cell(n, 1) == 1 ? e.saying : ~e.saying;
                }
            }
            return left;
        }

        int trueInAll(int set) {
            int found = 0;
            for (int n = 0; n < envelopes; n++) {
                if (set != 0 && (set & ~envelope[n].saying) == 0) {
                    found |= 1 << n;
                }
            }
            return found;
        }

        int othersFalseWith(Envelope one) {
            int found = 0;
            for (int n = 0; n < envelopes; n++) {
                if (n != one.number && (envelope[n].saying & one.saying) == 0) {
                    found |= 1 << n;
                }
            }
            return found;
        }

        int pricesIn(int world) {
            int sum = 0;
            for (int n = 0; n < envelopes; n++) {
                if (hasBit(envelope[n].saying, world)) {
                    sum += envelope[n].price;
                }
            }
            return sum;
        }

        int dearestWorld() {
            int dearest = 0;
            for (int w = 1; w < worlds; w++) {
                if (pricesIn(w) > pricesIn(dearest)) {
                    dearest = w;
                }
            }
            return dearest;
        }
    }

    /** The steps of a law, as the reader writes them and the laws walk through them. */
    private static final class Step {
        static final int NOT = -1, AND = -2, OR = -3;
        /** What is more or taxed is put on top of these; all from 0 up to MORE are tests. */
        static final int MORE = 10000, TAX = 20000;

        static int test(int letter, int sign, int number) {
            return (letter * 3 + sign) * 100 + number;
        }

        static boolean isMet(int step, int[] facts) {
            int letter = step / 300;
            int fact = letter >= 0 && letter < facts.length ? facts[letter] : 0;
            int number = step % 100;
            switch (step / 100 % 3) {
                case 0: return fact < number;
                case 1: return fact == number;
                default: return fact > number;
            }
        }

        /** Joins the lowest bits of a stack: what was found last is the lowest one. */
        static int joined(int step, int stack) {
            switch (step) {
                case NOT: return stack ^ 1;
                case AND: return stack >> 1 & (stack | ~1);
                default: return stack >> 1 | stack & 1;
            }
        }
    }

    /** The text and the laws that were read from it. */
    private static final class Laws {
        private final int[] text = new int[TEXT];
        int signs;
        int enacted;
        final int[][] steps = new int[LAWS][TEXT];
        final int[] lengths = new int[LAWS];
        final int[] bases = new int[LAWS];
        private final LawReader reader = new LawReader(text);

        int addSign(int sign) {
            if (signs >= TEXT) {
                return FULL;
            }
            text[signs] = sign;
            signs++;
            return signs;
        }

        int enact() {
            if (enacted >= LAWS) {
                return FULL;
            }
            boolean isLaw = reader.reads(signs, steps[enacted]);
            signs = 0;
            if (!isLaw) {
                return FAULT_AHEAD - reader.place;
            }
            lengths[enacted] = reader.length;
            bases[enacted] = reader.base;
            enacted++;
            return enacted - 1;
        }

        int baseOf(int law) {
            return law >= 0 && law < enacted ? bases[law] : PLAIN_BASE;
        }

        int extraOf(int law, int[] facts) {
            if (law < 0 || law >= enacted) {
                return 0;
            }
            int[] all = steps[law];
            int sum = 0;
            int stack = 0;
            for (int n = 0; n < lengths[law] && n < all.length; n++) {
                int step = all[n];
                if (step >= Step.MORE) {
                    sum += hasBit(stack, 0) ? amount(step) : 0;
                    stack = 0;
                } else if (step >= 0) {
                    stack = stack << 1 | (Step.isMet(step, facts) ? 1 : 0);
                } else {
                    stack = Step.joined(step, stack);
                }
            }
            return sum;
        }

        private static int amount(int step) {
            return step >= Step.TAX ? Step.TAX - step : step - Step.MORE;
        }
    }

    /**
     * Reads a text from the left on. Each part tells whether it was there:
     * place stands then behind it, else at the fault.
     */
    private static final class LawReader {
        static final String LETTERS = "ekswcd", SIGNS = "<=>";
        private final int[] text;
        private int signs;
        private int[] steps = new int[0];
        int place;
        int length;
        int base;
        private int number;

        LawReader(int[] text) {
            this.text = text;
        }

        boolean reads(int howMany, int[] to) {
            signs = howMany;
            steps = to;
            place = 0;
            length = 0;
            base = PLAIN_BASE;
            for (int n = 0; n < CLAUSES; n++) {
                if (n > 0 && !takes(';') || !clause()) {
                    return false;
                }
                if (place >= signs) {
                    return true;
                }
            }
            return false;
        }

        private boolean clause() {
            char first = sign();
            if (first != 'm' && first != 't') {
                return takesWord("base ") && takesBase();
            }
            int step = first == 'm' ? Step.MORE : Step.TAX;
            if (!takesWord(first == 'm' ? "more " : "tax ") || !takesNumber()) {
                return false;
            }
            int sized = step + number;
            return takes(' ') && any(0) && writes(sized);
        }

        private boolean takesBase() {
            if (!takesNumber()) {
                return false;
            }
            base = number;
            return true;
        }

        /** E: one T or some with | between; each T: one F or some with & between. */
        private boolean any(int depth) {
            for (int n = 0; n < TEXT; n++) {
                if (!one(depth)) {
                    return false;
                }
                for (int m = 0; m < TEXT && takes('&'); m++) {
                    if (!one(depth) || !writes(Step.AND)) {
                        return false;
                    }
                }
                if (n > 0 && !writes(Step.OR)) {
                    return false;
                }
                if (!takes('|')) {
                    return true;
                }
            }
            return false;
        }

        /** F, within as many others as depth tells. */
        private boolean one(int depth) {
            int within = depth;
            for (int n = 0; n < NESTED && within < NESTED && takes('!'); n++) {
                within++;
            }
            boolean isThere;
            if (within < NESTED && takes('(')) {
                isThere = any(within + 1) && takes(')');
            } else {
                isThere = test();
            }
            boolean isTurned = (within - depth) % 2 != 0;
            return isThere && (!isTurned || writes(Step.NOT));
        }

        private boolean test() {
            int letter = LETTERS.indexOf(sign());
            if (letter < 0) {
                return false;
            }
            place++;
            int compared = SIGNS.indexOf(sign());
            if (compared < 0) {
                return false;
            }
            place++;
            return takesNumber() && writes(Step.test(letter, compared, number));
        }

        private boolean takesNumber() {
            int from = place;
            number = 0;
            for (int n = 0; n < 2 && place < signs && place < text.length; n++) {
                int digit = text[place] - '0';
                if (digit < 0 || digit > 9) {
                    break;
                }
                number = number * 10 + digit;
                place++;
            }
            return place > from;
        }

        private boolean takesWord(String word) {
            for (int n = 0; n < word.length(); n++) {
                if (!takes(word.charAt(n))) {
                    return false;
                }
            }
            return true;
        }

        private boolean takes(char wanted) {
            if (sign() != wanted) {
                return false;
            }
            place++;
            return true;
        }

        /** The sign at place; behind the last one a sign that no text has. */
        private char sign() {
            return place < signs && place < text.length ? (char) text[place] : (char) 255;
        }

        private boolean writes(int step) {
            if (length >= steps.length) {
                return false;
            }
            steps[length] = step;
            length++;
            return true;
        }
    }

    /** What envelopes pay. */
    private static final class Payer {
        private final Fair fair;
        private final Laws laws;
        /** In the order of the letters of a test. */
        private final int[] facts = new int[FACTS];

        Payer(Fair fair, Laws laws) {
            this.fair = fair;
            this.laws = laws;
        }

        int payNow(Envelope e, int world) {
            return payIf(e, world, e.saying, fair.day);
        }

        /** PAY, did the envelope have that saying, and were it that day. */
        private int payIf(Envelope e, int world, int saying, int day) {
            int age = day - e.born;
            facts[0] = e.number;
            facts[1] = e.kind;
            facts[2] = Integer.bitCount(saying);
            facts[3] = world;
            facts[4] = fair.chances[world];
            facts[5] = Math.min(OLD_MOST, age);
            return Math.max(0, gross(e, world, saying, day) + laws.extraOf(fair.law, facts));
        }

        private int gross(Envelope e, int world, int saying, int day) {
            boolean isTrue = hasBit(saying, world);
            boolean isBeside = hasBit(saying << 1 | saying >> 1, world);
            int base = laws.baseOf(fair.law);
            int whole = base * e.v;
            int plain = isTrue ? whole : 0;
            int beside = isBeside ? whole / 2 : 0;
            int late = Math.max(0, plain - (day - e.born));
            switch (e.kind) {
                case NEAR: return isTrue ? whole : beside;
                case RARE: return isTrue ? rare(whole, saying) : 0;
                case LATE: return late;
                case SURPRISING: return isTrue ? whole + SURPRISE - fair.chances[world] : beside;
                case CONTRARY: return isTrue ? rare(whole, saying) : base;
                case TOLD: return late + e.row[day & ROW - 1];
                default: return plain;
            }
        }

        private static int rare(int whole, int saying) {
            int said = Integer.bitCount(saying);
            return said == 0 ? 0 : 4 * whole / said;
        }

        int sumIn(int world) {
            int sum = 0;
            for (int n = 0; n < fair.envelopes; n++) {
                sum += payNow(fair.envelope[n], world);
            }
            return sum;
        }

        /** PAY in each world times its chance, together. */
        int weighed(Envelope e, int saying, int day) {
            int sum = 0;
            for (int w = 0; w < fair.worlds; w++) {
                sum += payIf(e, w, saying, day) * fair.chances[w];
            }
            return sum;
        }

        int weighedNow(Envelope e) {
            return weighed(e, e.saying, fair.day);
        }

        int bestSaying(Envelope e) {
            int best = 0;
            int most = weighed(e, 0, fair.day);
            for (int saying = 1; saying <= fair.allWorlds(); saying++) {
                int sum = weighed(e, saying, fair.day);
                if (sum > most) {
                    most = sum;
                    best = saying;
                }
            }
            return best;
        }

        int bestWait(Envelope e, int days) {
            int best = 0;
            int most = weighedNow(e);
            for (int k = 1; k <= days; k++) {
                int sum = weighed(e, e.saying, fair.day + k);
                if (sum > most) {
                    most = sum;
                    best = k;
                }
            }
            return best;
        }

        int belowMean() {
            int found = 0;
            int chances = fair.chancesOf(fair.allWorlds());
            for (int n = 0; n < fair.envelopes; n++) {
                Envelope e = fair.envelope[n];
                if (e.price * chances < weighedNow(e)) {
                    found |= 1 << n;
                }
            }
            return found;
        }

        int payingAtLeast(int least) {
            int found = 0;
            for (int n = 0; n < fair.envelopes; n++) {
                if (paysAtLeast(fair.envelope[n], least)) {
                    found++;
                }
            }
            return found;
        }

        private boolean paysAtLeast(Envelope e, int least) {
            for (int w = 0; w < fair.worlds; w++) {
                if (payNow(e, w) >= least) {
                    return true;
                }
            }
            return false;
        }

        /** The first row of the book that tells another pay. */
        int firstOtherwise() {
            Rows book = fair.book;
            for (int n = 0; n < book.rows; n++) {
                Envelope e = fair.find(book.cell(n, 0));
                int world = book.cell(n, 1);
                if (e != null && fair.hasWorld(world) && payNow(e, world) != book.cell(n, 2)) {
                    return n;
                }
            }
            return NEITHER;
        }
    }

    /** What sets of envelopes gain. */
    private static final class Stakes {
        private final Fair fair;
        private final Payer payer;
        /** PAY less PRICE, world by world within envelope by envelope, as lookAgain() found it. */
        private final int[] gains = new int[ENVELOPES * WORLDS];

        Stakes(Fair fair, Payer payer) {
            this.fair = fair;
            this.payer = payer;
        }

        void lookAgain() {
            for (int n = 0; n < fair.envelopes; n++) {
                Envelope e = fair.envelope[n];
                for (int w = 0; w < fair.worlds; w++) {
                    gains[n * WORLDS + w] = payer.payNow(e, w) - e.price;
                }
            }
        }

        int gainOf(int set, int world) {
            int sum = 0;
            for (int n = 0; n < fair.envelopes; n++) {
                if (hasBit(set, n)) {
                    sum += gains[n * WORLDS + world];
                }
            }
            return sum;
        }

        int leastOf(int set) {
            if (fair.worlds == 0) {
                return 0;
            }
            int least = gainOf(set, 0);
            for (int w = 1; w < fair.worlds; w++) {
                least = Math.min(least, gainOf(set, w));
            }
            return least;
        }

        int safestSet() {
            int safest = 0;
            int most = leastOf(0);
            for (int set = 1; set <= fair.allEnvelopes(); set++) {
                int least = leastOf(set);
                if (least > most) {
                    most = least;
                    safest = set;
                }
            }
            return safest;
        }

        int sureSet() {
            for (int set = 1; set <= fair.allEnvelopes(); set++) {
                if (leastOf(set) > 0) {
                    return set;
                }
            }
            return 0;
        }

        int closestTwo() {
            int closest = NEITHER;
            int narrowest = Integer.MAX_VALUE;
            for (int a = 0; a < fair.envelopes; a++) {
                for (int b = a + 1; b < fair.envelopes; b++) {
                    int span = spanOf(1 << a | 1 << b);
                    if (span < narrowest) {
                        narrowest = span;
                        closest = 10 * a + b;
                    }
                }
            }
            return closest;
        }

        private int spanOf(int set) {
            int most = gainOf(set, 0);
            for (int w = 1; w < fair.worlds; w++) {
                most = Math.max(most, gainOf(set, w));
            }
            return most - leastOf(set);
        }
    }

    /** The bodies of the kinds, and which of them ran. */
    private static final class Acts {
        static final int SEALS = 0, PAYS = 1, TELLS = 2;
        /** For each kind its bodies of seals, pays, tells; 0: it has none. */
        private static final int[] BODIES = {
            10, 11, 12,
            0, 20, 0,
            30, 0, 0,
            0, 0, 40,
            50, 51, 0,
            0, 0, 60,
            71, 70, 0
        };
        int ran;
        private final int[] bodies = new int[TRACED];
        private int kind;
        private int number;
        private int v;

        void forget() {
            ran = 0;
        }

        int traced(int i) {
            return i >= 0 && i < ran && i < TRACED ? bodies[i] : NONE;
        }

        int perform(Envelope e, int act, int x) {
            kind = e.kind;
            number = e.number;
            v = e.v;
            return run(kind, act, x, 0);
        }

        /** Runs the body that a kind has for an act, or the next kind above it that has one. */
        private int run(int from, int act, int x, int depth) {
            if (depth >= DEEPEST_ACT) {
                return 0;
            }
            int body = bodyFrom(from, act);
            begin(body);
            return through(body, x, depth + 1);
        }

        private int through(int body, int x, int in) {
            switch (body) {
                case 10: return x + number;
                case 11: return run(kind, SEALS, x, in) - v;
                case 12: return run(kind, PAYS, x, in) * 2;
                case 20: return run(ENVELOPE, PAYS, x, in) ^ 6;
                case 30: return run(ENVELOPE, SEALS, x * 3, in);
                case 40: return run(ENVELOPE, TELLS, x, in) + run(kind, PAYS, 1, in);
                case 50: return -run(NEAR, SEALS, x, in);
                case 51: return run(NEAR, PAYS, x + 1, in);
                case 60: return run(RARE, TELLS, x - number, in);
                case 70: return run(LATE, PAYS, x, in) + run(LATE, SEALS, 2, in);
                case 71: return run(LATE, SEALS, x, in) ^ v;
                default: return 0;
            }
        }

        private static int bodyFrom(int from, int act) {
            int at = from;
            for (int n = 0; n < ABOVE.length && at >= 0 && at < ABOVE.length; n++) {
                int place = at * 3 + act;
                if (place >= 0 && place < BODIES.length && BODIES[place] != 0) {
                    return BODIES[place];
                }
                at = ABOVE[at];
            }
            return 0;
        }

        private void begin(int body) {
            if (ran < TRACED) {
                bodies[ran] = body;
            }
            ran++;
        }
    }

    private static final class Tapes {
        static final int EMPTY = -1, BYTES = 0, SHORTS = 1, INTS = 2, LONGS = 3, BOOLEANS = 4;
        final int[] sort = new int[TAPES];
        private final int[] sizes = new int[TAPES];
        final long[][] items = new long[TAPES][ITEMS];

        Tapes() {
            for (int tape = 0; tape < TAPES; tape++) {
                sort[tape] = EMPTY;
            }
        }

        boolean has(int tape) {
            return tape >= 0 && tape < TAPES;
        }

        boolean holds(int tape) {
            return sort[tape] != EMPTY;
        }

        boolean isOfLongs(int tape) {
            return sort[tape] == LONGS;
        }

        boolean hasPlace(int tape, int i) {
            return i >= 0 && i < sizes[tape];
        }

        boolean hasPlaces(int tape, int i, int n) {
            return i >= 0 && n >= 0 && n <= sizes[tape] && i <= sizes[tape] - n;
        }

        void remake(int tape, int newSort, int size) {
            sort[tape] = newSort;
            sizes[tape] = size;
            for (int i = 0; i < ITEMS; i++) {
                items[tape][i] = 0;
            }
        }

        void put(int tape, int i, long v) {
            items[tape][i] = cut(sort[tape], v);
        }

        long valueAt(int tape, int i) {
            return items[tape][i];
        }

        private static long cut(int toSort, long v) {
            switch (toSort) {
                case BYTES: return (byte) v;
                case SHORTS: return (short) v;
                case INTS: return (int) v;
                case BOOLEANS: return v != 0 ? 1 : 0;
                default: return v;
            }
        }
    }
}
