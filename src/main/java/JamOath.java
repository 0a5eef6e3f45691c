import java.util.Arrays;

/** Pots of jam under oath. Words in capitals are those of the document, ../shared/DOC.md. */
public final class JamOath {
    public static final int NONE = -1, BAD = -2, STATE = -3, FULL = -4;
    public static final long NO = Long.MIN_VALUE;

    private static final int NOTHING = -11, CAST = -12, PLACE = -13, SIZE = -14;
    /** Nothing is said, or none was found. */
    private static final int SILENT = -5;
    /** Stands for NONE where an answer may be below 0. */
    private static final int NO_SUCH = -10001;

    private static final int FACTS = 8, ALL_FACTS = 255, POTS = 6, CELLARS = 6, TAPES = 6;
    private static final int TOP_DIGIT = 9, MOST_TERMS = 60, LAST_TERM = 9999;
    private static final int MOST_HEARD = 6, MOST_PLANNED = 10, MOST_BOOKED = 8;
    private static final int ROW_PARTS = 4, CLEAR_ENOUGH = 4, FAULTS_FROM = -10, JUDGED_SHORT = 100;

    private static final int POT = 0, DAMSON = 1, PLUM = 2, BERRY = 3, QUINCE = 4, WASP = 5, TOLD = 6;
    private static final int KINDS = 7;
    /** The KIND above each KIND. */
    private static final int[] ABOVE = {-1, POT, POT, POT, DAMSON, PLUM, BERRY};

    private static final int GO_TERM = 0, GO_OPEN = 1, GO_EMPTY = 2, GO_TURN = 3;

    private final State now = new State();
    private final State kept = new State();
    /** Here is tried out what is asked, since nothing asked may change what is. */
    private final State trial = new State();
    private final Pot tasted = new Pot();
    private boolean imaged = false;

    private final Text text = new Text();
    private final Cellar[] cellars = new Cellar[CELLARS];
    private final Cellar bare = new Cellar();
    private int cellarCount = 0;

    private final Fits fits = new Fits();
    /** For each POT the FACTS, as bits, about which it SAYS 1 or 0. */
    private final int[] spoken = new int[POTS];
    private final Acting acting = new Acting();
    private final Tape[] tapes = new Tape[TAPES];

    public JamOath() {
        for (int i = 0; i < CELLARS; i++) {
            cellars[i] = new Cellar();
        }
        for (int i = 0; i < TAPES; i++) {
            tapes[i] = new Tape();
        }
    }

    // ---- pots, cellars

    public int pot(int kind, int v, int sugar) {
        if (kind < 0 || kind >= KINDS) {
            return NONE;
        }
        if (!isDigit(v) || !isDigit(sugar)) {
            return BAD;
        }
        return now.addPot(kind, v, sugar);
    }

    public int of(int pot, int what) {
        Pot asked = now.potAt(pot);
        if (asked == null) {
            return NO_SUCH;
        }
        if (what == 5) {
            return fittingSugars(asked);
        }
        if (what < 5) {
            return trait(asked, what);
        }
        int fact = what % 10;
        if (!isFact(fact)) {
            return NO_SUCH;
        }
        switch (what / 10) {
            case 1:
                return clearOf(asked, fact);
            case 2:
                return says(asked, fact);
            case 3:
                return when(asked, fact);
            default:
                return NO_SUCH;
        }
    }

    public int world(int facts) {
        if (facts < 0 || facts > ALL_FACTS) {
            return BAD;
        }
        int was = now.world;
        now.world = facts;
        return was;
    }

    public int sugar(int pot, int n) {
        Pot changed = now.potAt(pot);
        if (changed == null) {
            return NONE;
        }
        if (!isDigit(n)) {
            return BAD;
        }
        int was = changed.sugar;
        changed.sugar = n;
        return was;
    }

    public int spoon(int pot, int fact) {
        Pot opened = now.potAt(pot);
        if (opened == null || !isFact(fact)) {
            return NO_SUCH;
        }
        int said = says(opened, fact);
        opened.open();
        return said;
    }

    public int row(int pot, int part, int n) {
        Pot changed = now.potAt(pot);
        if (changed == null || part < 0 || part >= ROW_PARTS) {
            return NONE;
        }
        if (!isDigit(n)) {
            return BAD;
        }
        if (changed.kind != TOLD) {
            return STATE;
        }
        int was = changed.row[part];
        changed.row[part] = n;
        return was;
    }

    public int feed(int sign) {
        if (sign < 0 || sign > 127) {
            return BAD;
        }
        return text.append(sign);
    }

    public int cellar() {
        if (cellarCount >= CELLARS) {
            return FULL;
        }
        int fault = text.readInto(cellars[cellarCount]);
        if (fault >= 0) {
            return FAULTS_FROM - fault;
        }
        now.holding = cellarCount;
        cellarCount++;
        return now.holding;
    }

    public int told(int what) {
        if (what >= 10 && what < 10 + FACTS) {
            return found(what - 10);
        }
        switch (what) {
            case 0:
                return now.term;
            case 1:
                return holding().keep;
            case 2:
                return now.world;
            default:
                return toldOfFits(what);
        }
    }

    private int toldOfFits(int what) {
        gatherFits();
        switch (what) {
            case 3:
                return fits.size();
            case 4:
                return fits.any ? fits.so : SILENT;
            case 5:
                return fits.any ? fits.so : 0;
            case 6:
                return fits.any ? fits.known & ~fits.so : ALL_FACTS;
            case 7:
                return nextToAsk();
            default:
                return NO_SUCH;
        }
    }

    private static int trait(Pot asked, int what) {
        switch (what) {
            case 0:
                return asked.kind;
            case 1:
                return asked.v;
            case 2:
                return asked.sugar;
            case 3:
                return asked.age;
            case 4:
                return asked.opened;
            default:
                return NO_SUCH;
        }
    }

    private static boolean isDigit(int n) {
        return n >= 0 && n <= TOP_DIGIT;
    }

    private static boolean isFact(int fact) {
        return fact >= 0 && fact < FACTS;
    }

    private static boolean isIn(int bits, int i) {
        return ((bits >> i) & 1) == 1;
    }

    private Cellar holding() {
        int number = now.holding;
        return number >= 0 && number < cellarCount ? cellars[number] : bare;
    }

    private int clearOf(Pot asked, int fact) {
        return asked.clear(holding().sum(asked, fact), fact);
    }

    /** By CLEAR, 1: it SAYS what is so, -1: the other way, 0: nothing. */
    private static int voiceOf(int clear) {
        if (clear >= CLEAR_ENOUGH) {
            return 1;
        }
        return clear < 0 ? -1 : 0;
    }

    private int saidBy(int clear, int fact) {
        int voice = voiceOf(clear);
        if (voice == 0) {
            return SILENT;
        }
        return isIn(now.world, fact) == (voice > 0) ? 1 : 0;
    }

    private int says(Pot asked, int fact) {
        return saidBy(clearOf(asked, fact), fact);
    }

    private int when(Pot asked, int fact) {
        int keep = holding().keep;
        tasted.copyFrom(asked);
        for (int terms = 0; terms <= MOST_TERMS; terms++) {
            if (clearOf(tasted, fact) >= CLEAR_ENOUGH) {
                return terms;
            }
            tasted.ripen(keep);
        }
        return SILENT;
    }

    private int found(int fact) {
        int sum = 0;
        for (int i = 0; i < now.potCount; i++) {
            int clear = clearOf(now.pots[i], fact);
            int said = saidBy(clear, fact);
            if (said != SILENT) {
                sum += said == 1 ? Math.abs(clear) : -Math.abs(clear);
            }
        }
        return sum;
    }

    // ---- terms, cases

    public int pass(int n) {
        if (n < 0 || n > MOST_TERMS) {
            return BAD;
        }
        if (now.term + n > LAST_TERM) {
            return STATE;
        }
        now.ripenAll(n, holding().keep);
        now.term += n;
        return now.term;
    }

    public int on(int n, int what) {
        boolean ofOne = what >= 10 && what < 30;
        if (what != 0 && (!ofOne || now.potAt(what % 10) == null)) {
            return NO_SUCH;
        }
        if (n < 0 || n > MOST_TERMS) {
            return BAD;
        }
        trial.copyPotsFrom(now);
        trial.ripenAll(n, holding().keep);
        if (what == 0) {
            return trial.sugarOfAll();
        }
        Pot later = trial.potAt(what % 10);
        if (later == null) {
            return NO_SUCH;
        }
        return what < 20 ? later.sugar : says(later, 0);
    }

    public int cases(int facts, int what) {
        if (what != 0 && what != 1) {
            return NONE;
        }
        if (facts < 0 || facts > ALL_FACTS) {
            return BAD;
        }
        gatherSpoken(facts);
        return what == 0 ? enough(facts) : ownPots(facts);
    }

    private void gatherSpoken(int facts) {
        for (int i = 0; i < now.potCount; i++) {
            int bits = 0;
            for (int fact = 0; fact < FACTS; fact++) {
                if (isIn(facts, fact) && voiceOf(clearOf(now.pots[i], fact)) != 0) {
                    bits |= 1 << fact;
                }
            }
            spoken[i] = bits;
        }
    }

    private int enough(int facts) {
        int best = SILENT;
        int fewest = POTS + 1;
        for (int set = 0; set < 1 << now.potCount; set++) {
            int size = Integer.bitCount(set);
            if (size < fewest && (facts & ~spokenBy(set)) == 0) {
                best = set;
                fewest = size;
            }
        }
        return best;
    }

    private int spokenBy(int set) {
        int bits = 0;
        for (int i = 0; i < now.potCount; i++) {
            if (isIn(set, i)) {
                bits |= spoken[i];
            }
        }
        return bits;
    }

    private int ownPots(int facts) {
        // Bit s: the FACTS so far can be given just the POTS of set s, one each.
        long givable = 1;
        for (int fact = 0; fact < FACTS; fact++) {
            if (isIn(facts, fact)) {
                givable |= givenOneMore(givable, fact);
            }
        }
        int most = 0;
        for (int set = 0; set < 1 << POTS; set++) {
            if (((givable >> set) & 1) == 1) {
                most = Math.max(most, Integer.bitCount(set));
            }
        }
        return most;
    }

    private long givenOneMore(long givable, int fact) {
        long more = 0;
        for (int i = 0; i < now.potCount; i++) {
            boolean speaks = isIn(spoken[i], fact);
            for (int set = 0; speaks && set < 1 << POTS; set++) {
                if (((givable >> set) & 1) == 1 && !isIn(set, i)) {
                    more |= 1L << (set | 1 << i);
                }
            }
        }
        return more;
    }

    // ---- heard, odds

    public int hear(int pot, int fact, int says) {
        if (pot == -1) {
            return now.heard.empty();
        }
        if (now.potAt(pot) == null || !isFact(fact)) {
            return NONE;
        }
        if (says < -1 || says > 1) {
            return BAD;
        }
        return now.heard.append(pot, fact, says);
    }

    public int can(int pot, int what) {
        Pot asked = now.potAt(pot);
        if (asked == null || (what != 0 && what != 1)) {
            return NONE;
        }
        int bits = fittingNumbers(asked);
        return what == 0 ? Integer.bitCount(bits) : least(bits);
    }

    public long odds(int fact, int part) {
        if (!isFact(fact) || (part != 0 && part != 1)) {
            return NO;
        }
        gatherFits();
        if (!fits.any) {
            return NO;
        }
        // A FACT that is not known is so in one half of FITS.
        boolean known = isIn(fits.known, fact);
        if (part == 1) {
            return known ? 1 : 2;
        }
        return known && !isIn(fits.so, fact) ? 0 : 1;
    }

    public long mean(int n, int part) {
        if (n < 0 || n > MOST_TERMS || (part != 0 && part != 1) || now.potCount == 0) {
            return NO;
        }
        trial.copyPotsFrom(now);
        trial.ripenAll(n, holding().keep);
        int above = trial.sugarOfAll();
        int below = trial.potCount;
        int common = commonDivisor(above, below);
        if (common == 0) {
            return NO;
        }
        return (part == 0 ? above : below) / common;
    }

    /** Of two numbers not below 0; 0, if both are. */
    private static int commonDivisor(int a, int b) {
        int big = a;
        int small = b;
        // Fewer steps than an int has bits, twice over, lead to 0.
        for (int step = 0; step < 64 && small != 0; step++) {
            int rest = big % small;
            big = small;
            small = rest;
        }
        return big;
    }

    private void gatherFits() {
        fits.startAnew();
        Rows heard = now.heard;
        for (int i = 0; i < heard.size; i++) {
            Pot asked = now.potAt(heard.first[i]);
            if (asked != null) {
                int fact = heard.second[i];
                fits.narrow(fact, voiceOf(clearOf(asked, fact)), heard.third[i]);
            }
        }
    }

    private int nextToAsk() {
        if (!fits.any) {
            return SILENT;
        }
        int best = SILENT;
        int least = fits.size() + 1;
        for (int i = 0; i < now.potCount; i++) {
            for (int fact = 0; fact < FACTS; fact++) {
                int left = fits.leftBy(fact, voiceOf(clearOf(now.pots[i], fact)));
                if (left < least) {
                    least = left;
                    best = 10 * i + fact;
                }
            }
        }
        return best;
    }

    /** Whether a POT, maybe another than it is, SAYS all of HEARD that is of its number. */
    private boolean bearsOut(Pot asked) {
        Rows heard = now.heard;
        for (int i = 0; i < heard.size; i++) {
            if (heard.first[i] == asked.number) {
                int said = says(asked, heard.second[i]);
                if ((said == SILENT ? -1 : said) != heard.third[i]) {
                    return false;
                }
            }
        }
        return true;
    }

    /** The least of some numbers 0 .. 9, as bits. */
    private static int least(int bits) {
        for (int n = 0; n <= TOP_DIGIT; n++) {
            if (isIn(bits, n)) {
                return n;
            }
        }
        return SILENT;
    }

    private int fittingSugars(Pot asked) {
        int bits = 0;
        tasted.copyFrom(asked);
        for (int n = 0; n <= TOP_DIGIT; n++) {
            tasted.sugar = n;
            if (bearsOut(tasted)) {
                bits |= 1 << n;
            }
        }
        return bits;
    }

    private int fittingNumbers(Pot asked) {
        int bits = 0;
        tasted.copyFrom(asked);
        for (int n = 0; n <= TOP_DIGIT; n++) {
            tasted.v = n;
            if (bearsOut(tasted)) {
                bits |= 1 << n;
            }
        }
        return bits;
    }

    // ---- plans, books

    public int plan(int what, int n) {
        if (what == -1) {
            return now.plan.empty();
        }
        if (!canGo(what, n)) {
            return NONE;
        }
        return now.plan.append(what, n, 0);
    }

    private boolean canGo(int what, int n) {
        switch (what) {
            case GO_TERM:
                return true;
            case GO_OPEN:
                return n >= 0 && now.potAt(n / 10) != null && isFact(n % 10);
            case GO_EMPTY:
                return now.potAt(n) != null;
            case GO_TURN:
                return isFact(n);
            default:
                return false;
        }
    }

    public int ends(int what) {
        if (what != 0 && what != 1) {
            return NONE;
        }
        trial.copyPotsFrom(now);
        int keep = holding().keep;
        for (int i = 0; i < now.plan.size; i++) {
            goOn(now.plan.first[i], now.plan.second[i], keep);
        }
        return what == 0 ? trial.sugarOfAll() : trial.openedOfAll();
    }

    /** One row of the PLAN. THE WORLD that it turns has no part in how the PLAN ENDS. */
    private void goOn(int what, int n, int keep) {
        if (what == GO_TERM) {
            trial.ripenAll(1, keep);
            return;
        }
        Pot changed = trial.potAt(what == GO_OPEN ? n / 10 : n);
        if (changed == null) {
            return;
        }
        if (what == GO_OPEN) {
            changed.open();
        } else if (what == GO_EMPTY) {
            changed.sugar = 0;
        }
    }

    public int book(int pot, int sugar) {
        if (pot == -1) {
            return now.book.empty();
        }
        if (now.potAt(pot) == null) {
            return NONE;
        }
        if (!isDigit(sugar)) {
            return BAD;
        }
        return now.book.append(pot, sugar, 0);
    }

    public int looked() {
        Rows book = now.book;
        for (int i = 0; i < book.size; i++) {
            Pot booked = now.potAt(book.first[i]);
            if (booked != null && booked.sugar != book.second[i]) {
                return i;
            }
        }
        return SILENT;
    }

    // ---- judging, the image, acts, tapes

    public int judge(int tape, int i) {
        Tape row = tapeAt(tape);
        if (row == null) {
            return NONE;
        }
        if (row.sort == Tape.EMPTY) {
            return JUDGED_SHORT;
        }
        if (row.sort != Tape.BOOLEANS) {
            return CAST;
        }
        for (int fact = 0; fact < FACTS; fact++) {
            // i alone is looked at first, since i and a FACT together might wrap.
            if (!row.has(i) || !row.has(i + fact)) {
                return JUDGED_SHORT + fact;
            }
            if ((row.items[i + fact] == 1) != isIn(now.world, fact)) {
                return fact;
            }
        }
        return SILENT;
    }

    public int image() {
        kept.copyFrom(now);
        imaged = true;
        return now.potCount;
    }

    public int undo() {
        if (!imaged) {
            return STATE;
        }
        now.copyFrom(kept);
        return now.potCount;
    }

    public int act(int pot, int act, int x) {
        acting.forget();
        Pot acted = now.potAt(pot);
        if (acted == null || act < Acting.SETS || act > Acting.TELLS) {
            return 0;
        }
        return acting.perform(acted, acted.kind, act, x, 0);
    }

    public int trace(int i) {
        return i >= 0 && i < acting.keptCount() ? acting.bodies[i] : NONE;
    }

    public int taken(int pot, int k) {
        if (k < 0 || k >= KINDS) {
            return BAD;
        }
        Pot asked = now.potAt(pot);
        if (asked == null) {
            return NOTHING;
        }
        return isUnder(asked.kind, k) ? asked.kind : CAST;
    }

    private static boolean isUnder(int kind, int top) {
        int at = kind;
        for (int step = 0; step < KINDS && at != top && at > POT; step++) {
            at = ABOVE[at];
        }
        return at == top;
    }

    public int count(int what) {
        switch (what) {
            case 0:
                return now.potCount;
            case 1:
                return cellarCount;
            case 2:
                return now.heard.size;
            case 3:
                return now.plan.size;
            case 4:
                return now.book.size;
            case 5:
                return text.length;
            case 6:
                return acting.ran;
            default:
                return BAD;
        }
    }

    public int tape(int tape, int sort, int n) {
        Tape changed = tapeAt(tape);
        if (changed == null) {
            return NONE;
        }
        if (sort == Tape.EMPTY) {
            changed.become(Tape.EMPTY, 0);
            return 1;
        }
        if (sort < Tape.BYTES || sort > Tape.BOOLEANS || n > Tape.MOST) {
            return BAD;
        }
        if (n < 0) {
            return SIZE;
        }
        changed.become(sort, n);
        return 1;
    }

    public int item(int tape, int i, long v) {
        Tape changed = tapeAt(tape);
        if (changed == null) {
            return NONE;
        }
        if (changed.sort == Tape.EMPTY) {
            return NOTHING;
        }
        if (!changed.has(i)) {
            return PLACE;
        }
        changed.items[i] = changed.lowest(v);
        return 1;
    }

    public long read(int tape, int i) {
        Tape asked = tapeAt(tape);
        return asked != null && asked.has(i) ? asked.items[i] : NO;
    }

    public int shift(int tape, int i, int other, int j, int n) {
        Tape from = tapeAt(tape);
        Tape to = tapeAt(other);
        if (from == null || to == null) {
            return NONE;
        }
        if (from.sort == Tape.EMPTY || to.sort == Tape.EMPTY) {
            return NOTHING;
        }
        if (from.sort != to.sort) {
            return CAST;
        }
        if (!from.spans(i, n) || !to.spans(j, n)) {
            return PLACE;
        }
        System.arraycopy(from.items, i, to.items, j, n);
        return n;
    }

    private Tape tapeAt(int number) {
        return number >= 0 && number < TAPES ? tapes[number] : null;
    }

    /** A POT with all that is its own. */
    private static final class Pot {
        int number;
        int kind;
        int v;
        int sugar;
        int age;
        int opened;
        final int[] row = new int[ROW_PARTS];

        void begin(int asNumber, int ofKind, int withV, int withSugar) {
            number = asNumber;
            kind = ofKind;
            v = withV;
            sugar = withSugar;
            age = 0;
            opened = 0;
            Arrays.fill(row, 0);
        }

        void copyFrom(Pot other) {
            number = other.number;
            kind = other.kind;
            v = other.v;
            sugar = other.sugar;
            age = other.age;
            opened = other.opened;
            System.arraycopy(other.row, 0, row, 0, ROW_PARTS);
        }

        /** CLEAR, by the SUM about that FACT. */
        int clear(int sum, int fact) {
            switch (kind) {
                case DAMSON:
                    return sum + v;
                case PLUM:
                    return sum / 2;
                case BERRY:
                    return sum - 2 * opened;
                case QUINCE:
                    return age < v ? 0 : sum + v;
                case WASP:
                    return sum / 2 - (fact % 2 == 1 ? 6 : 0);
                case TOLD:
                    return sum - 2 * opened + row[fact & (ROW_PARTS - 1)] - 4;
                default:
                    return sum;
            }
        }

        void open() {
            opened = Math.min(opened + 1, TOP_DIGIT);
            sugar = Math.max(sugar - 1, 0);
        }

        /**
         * A TERM for this POT. AGE has no bound here: no AGE is above TERM, which pass() keeps
         * from going above 9999, and what is asked goes on beyond that.
         */
        void ripen(int keep) {
            age++;
            if (keep > 0 && age % keep == 0) {
                sugar = Math.min(sugar + 1, TOP_DIGIT);
            }
        }
    }

    /** Rows told by hand, up to three numbers each. */
    private static final class Rows {
        final int[] first;
        final int[] second;
        final int[] third;
        int size = 0;

        Rows(int most) {
            first = new int[most];
            second = new int[most];
            third = new int[most];
        }

        int append(int a, int b, int c) {
            if (size >= first.length) {
                return FULL;
            }
            first[size] = a;
            second[size] = b;
            third[size] = c;
            size++;
            return size;
        }

        int empty() {
            size = 0;
            return 0;
        }

        /** The other one has room for as many rows. */
        void copyFrom(Rows other) {
            size = Math.min(other.size, first.length);
            System.arraycopy(other.first, 0, first, 0, size);
            System.arraycopy(other.second, 0, second, 0, size);
            System.arraycopy(other.third, 0, third, 0, size);
        }
    }

    /** All that THE IMAGE holds. */
    private static final class State {
        int world = 0;
        int term = 0;
        /** The number of the CELLAR that holds; below 0: none. */
        int holding = -1;
        final Pot[] pots = new Pot[POTS];
        int potCount = 0;
        final Rows heard = new Rows(MOST_HEARD);
        final Rows plan = new Rows(MOST_PLANNED);
        final Rows book = new Rows(MOST_BOOKED);

        State() {
            for (int i = 0; i < POTS; i++) {
                pots[i] = new Pot();
            }
        }

        Pot potAt(int number) {
            return number >= 0 && number < potCount ? pots[number] : null;
        }

        int addPot(int kind, int v, int sugar) {
            if (potCount >= POTS) {
                return FULL;
            }
            int number = potCount;
            pots[number].begin(number, kind, v, sugar);
            potCount++;
            return number;
        }

        void copyPotsFrom(State other) {
            potCount = other.potCount;
            for (int i = 0; i < potCount; i++) {
                pots[i].copyFrom(other.pots[i]);
            }
        }

        void copyFrom(State other) {
            world = other.world;
            term = other.term;
            holding = other.holding;
            copyPotsFrom(other);
            heard.copyFrom(other.heard);
            plan.copyFrom(other.plan);
            book.copyFrom(other.book);
        }

        void ripenAll(int n, int keep) {
            for (int i = 0; i < potCount; i++) {
                for (int gone = 0; gone < n; gone++) {
                    pots[i].ripen(keep);
                }
            }
        }

        int sugarOfAll() {
            int sum = 0;
            for (int i = 0; i < potCount; i++) {
                sum += pots[i].sugar;
            }
            return sum;
        }

        int openedOfAll() {
            int sum = 0;
            for (int i = 0; i < potCount; i++) {
                sum += pots[i].opened;
            }
            return sum;
        }
    }

    /**
     * FITS. What a POT SAYS hangs on the one FACT it is asked about, so all of HEARD comes to
     * this: some FACTS are known, the others may be either way, or nothing FITS.
     */
    private static final class Fits {
        boolean any;
        int known;
        /** Those of the known FACTS that are so. */
        int so;

        void startAnew() {
            any = true;
            known = 0;
            so = 0;
        }

        /** A POT with such a voice about the FACT was heard: 1, 0, or -1 for nothing. */
        void narrow(int fact, int voice, int heard) {
            if (voice == 0 || heard < 0) {
                any = any && voice == 0 && heard < 0;
                return;
            }
            int bit = 1 << fact;
            int is = (voice > 0) == (heard == 1) ? bit : 0;
            if ((known & bit) != 0 && (so & bit) != is) {
                any = false;
            }
            known |= bit;
            so |= is;
        }

        int size() {
            return any ? 1 << (FACTS - Integer.bitCount(known)) : 0;
        }

        /** The greatest number that is left when a POT with such a voice is asked. */
        int leftBy(int fact, int voice) {
            boolean halves = voice != 0 && !isIn(known, fact);
            return halves ? size() / 2 : size();
        }
    }

    /**
     * A CELLAR as steps behind one another: a TEST puts whether it holds on a pile, !, & and |
     * work on the top of the pile, sweet and haze take it off. A step is 100 times what it
     * does and its n.
     */
    private static final class Cellar {
        static final int NOT = 18, AND = 19, OR = 20, SWEET = 21, HAZE = 22;
        static final int KEEP_WITHOUT = 5;
        final int[] steps = new int[Text.MOST];
        int length = 0;
        int keep = KEEP_WITHOUT;

        void startAnew() {
            length = 0;
            keep = KEEP_WITHOUT;
        }

        void append(int does, int n) {
            // A step takes a sign of THE TEXT at least, so there is always room.
            if (length < steps.length) {
                steps[length] = 100 * does + n;
                length++;
            }
        }

        /** SUM. The pile is the bits of one number, the top the lowest; it stays below 12. */
        int sum(Pot pot, int fact) {
            int sum = pot.sugar;
            int pile = 0;
            for (int i = 0; i < length; i++) {
                int does = steps[i] / 100;
                int n = steps[i] % 100;
                int top = pile & 1;
                switch (does) {
                    case NOT:
                        pile = pile ^ 1;
                        break;
                    case AND:
                        pile = (pile >> 1) & (~1 | top);
                        break;
                    case OR:
                        pile = (pile >> 1) | top;
                        break;
                    case SWEET:
                        sum += top * n;
                        pile = pile >> 1;
                        break;
                    case HAZE:
                        sum -= top * n;
                        pile = pile >> 1;
                        break;
                    default:
                        pile = (pile << 1) | (holds(does, n, pot, fact) ? 1 : 0);
                        break;
                }
            }
            return sum;
        }

        private static boolean holds(int test, int n, Pot pot, int fact) {
            int value;
            switch (test / 3) {
                case 0:
                    value = pot.number;
                    break;
                case 1:
                    value = pot.kind;
                    break;
                case 2:
                    value = pot.v;
                    break;
                case 3:
                    value = fact;
                    break;
                case 4:
                    value = pot.sugar;
                    break;
                default:
                    value = pot.age % 10;
                    break;
            }
            int relation = test % 3;
            return relation == 0 ? value < n : relation == 1 ? value == n : value > n;
        }
    }

    /** THE TEXT, and how a CELLAR is read from it. */
    private static final class Text {
        static final int MOST = 100;
        private static final int MOST_CLAUSES = 10, DEEPEST = 4, END = -1;
        private static final String SWEET = "sweet", HAZE = "haze", KEEP = "keep";
        private static final String LETTERS = "pkvfsa", RELATIONS = "<=>";
        final byte[] signs = new byte[MOST];
        int length = 0;
        /** The first sign that is not read yet; once it failed, the FAULT. */
        private int at = 0;
        private boolean failed = false;

        int append(int sign) {
            if (length >= MOST) {
                return FULL;
            }
            signs[length] = (byte) sign;
            length++;
            return length;
        }

        /** The FAULT, or -1; THE TEXT is empty then. */
        int readInto(Cellar cellar) {
            cellar.startAnew();
            at = 0;
            failed = false;
            clause(cellar);
            for (int clauses = 1; clauses < MOST_CLAUSES && next() == ';'; clauses++) {
                at++;
                clause(cellar);
            }
            boolean whole = !failed && at == length;
            length = 0;
            return whole ? -1 : at;
        }

        /** END, too, once it failed: then nothing more is read, and at stays where it is. */
        private int next() {
            return failed || at >= length ? END : signs[at];
        }

        private void expect(char sign) {
            if (next() == sign) {
                at++;
            } else {
                failed = true;
            }
        }

        /** Which of some signs comes. */
        private int expectOne(String some) {
            int sign = next();
            int which = sign == END ? -1 : some.indexOf((char) sign);
            if (which < 0) {
                failed = true;
                return 0;
            }
            at++;
            return which;
        }

        private int expectNumber() {
            int n = 0;
            int digits = 0;
            for (int sign = next(); digits < 2 && sign >= '0' && sign <= '9'; sign = next()) {
                n = 10 * n + sign - '0';
                digits++;
                at++;
            }
            failed = failed || digits == 0;
            return n;
        }

        private void clause(Cellar cellar) {
            int first = next();
            String word = first == 's' ? SWEET : first == 'h' ? HAZE : KEEP;
            for (int i = 0; i < word.length(); i++) {
                expect(word.charAt(i));
            }
            expect(' ');
            int n = expectNumber();
            if (first != 's' && first != 'h') {
                cellar.keep = n;
                return;
            }
            expect(' ');
            either(cellar, 0);
            cellar.append(first == 's' ? Cellar.SWEET : Cellar.HAZE, n);
        }

        /** E, within so many ( and ! as depth tells. */
        private void either(Cellar cellar, int depth) {
            both(cellar, depth);
            for (int more = 0; more < MOST && next() == '|'; more++) {
                at++;
                both(cellar, depth);
                cellar.append(Cellar.OR, 0);
            }
        }

        /** T. */
        private void both(Cellar cellar, int depth) {
            single(cellar, depth);
            for (int more = 0; more < MOST && next() == '&'; more++) {
                at++;
                single(cellar, depth);
                cellar.append(Cellar.AND, 0);
            }
        }

        /** F. */
        private void single(Cellar cellar, int depth) {
            int sign = next();
            if (sign != '!' && sign != '(') {
                int letter = expectOne(LETTERS);
                int relation = expectOne(RELATIONS);
                cellar.append(3 * letter + relation, expectNumber());
                return;
            }
            if (depth >= DEEPEST) {
                failed = true;
                return;
            }
            at++;
            if (sign == '!') {
                single(cellar, depth + 1);
                cellar.append(Cellar.NOT, 0);
            } else {
                either(cellar, depth + 1);
                expect(')');
            }
        }
    }

    /** ACTS, and THE TRACE of the latest. */
    private static final class Acting {
        static final int SETS = 0, SHOWS = 1, TELLS = 2;
        private static final int MOST_KEPT = 20;
        /** No ACT of the document goes as deep. */
        private static final int DEEPEST = 20;
        /** Of each KIND the bodies that it has for sets, shows, tells; 0: none. */
        private static final int[] BODIES = {
            10, 11, 12,
            0, 20, 0,
            30, 0, 0,
            0, 0, 40,
            50, 51, 0,
            0, 0, 60,
            71, 70, 0};
        final int[] bodies = new int[MOST_KEPT];
        int ran = 0;

        void forget() {
            ran = 0;
        }

        int keptCount() {
            return Math.min(ran, MOST_KEPT);
        }

        private void note(int body) {
            if (ran < MOST_KEPT) {
                bodies[ran] = body;
            }
            ran++;
        }

        private static int bodyFrom(int kind, int act) {
            int at = kind;
            for (int step = 0; step < KINDS && at > POT && BODIES[3 * at + act] == 0; step++) {
                at = ABOVE[at];
            }
            return at < POT ? 0 : BODIES[3 * at + act];
        }

        /** The ACT's body of that KIND, or of the next above that has one, runs for a POT. */
        private int perform(Pot pot, int kind, int act, int x, int depth) {
            if (depth >= DEEPEST) {
                return 0;
            }
            int body = bodyFrom(kind, act);
            int deeper = depth + 1;
            note(body);
            switch (body) {
                case 10:
                    return x + pot.number;
                case 11:
                    return perform(pot, pot.kind, SETS, x, deeper) - pot.v;
                case 12:
                    return perform(pot, pot.kind, SHOWS, x, deeper) * 2;
                case 20:
                    return perform(pot, POT, SHOWS, x, deeper) ^ 6;
                case 30:
                    return perform(pot, POT, SETS, x * 3, deeper);
                case 40:
                    return perform(pot, POT, TELLS, x, deeper)
                        + perform(pot, pot.kind, SHOWS, 1, deeper);
                case 50:
                    return -perform(pot, DAMSON, SETS, x, deeper);
                case 51:
                    return perform(pot, DAMSON, SHOWS, x + 1, deeper);
                case 60:
                    return perform(pot, PLUM, TELLS, x - pot.number, deeper);
                case 70:
                    return perform(pot, BERRY, SHOWS, x, deeper)
                        + perform(pot, BERRY, SETS, 2, deeper);
                case 71:
                    return perform(pot, BERRY, SETS, x, deeper) ^ pot.v;
                default:
                    return 0;
            }
        }
    }

    /** A TAPE; its items are held as longs, whatever their sort. */
    private static final class Tape {
        static final int EMPTY = -1, BYTES = 0, SHORTS = 1, INTS = 2, BOOLEANS = 4, MOST = 60;
        final long[] items = new long[MOST];
        int sort = EMPTY;
        int size = 0;

        void become(int newSort, int newSize) {
            sort = newSort;
            size = Math.max(0, Math.min(newSize, MOST));
            Arrays.fill(items, 0L);
        }

        boolean has(int i) {
            return i >= 0 && i < size;
        }

        boolean spans(int i, int n) {
            return n >= 0 && i >= 0 && n <= size && i <= size - n;
        }

        /** What an item of this sort keeps of v. */
        long lowest(long v) {
            switch (sort) {
                case BYTES:
                    return (byte) v;
                case SHORTS:
                    return (short) v;
                case INTS:
                    return (int) v;
                case BOOLEANS:
                    return v != 0 ? 1 : 0;
                default:
                    return v;
            }
        }
    }
}
