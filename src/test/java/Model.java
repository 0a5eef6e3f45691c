import java.util.ArrayList;
import java.util.List;
import java.util.TreeSet;

/**
 * The document once more, written another way than the program: KINDS as Java classes, WORLDS
 * and sets tried one by one, THE TEXT read by trying every way to go on. Slow, and meant to be.
 */
final class Model {
    static final int NONE = -1, BAD = -2, STATE = -3, FULL = -4;
    static final long NO = Long.MIN_VALUE;

    // ---- KINDS

    static class Pot implements Cloneable {
        int kind, number, v, sugar, age, opened;
        int[] row = new int[4];
        List<Integer> trace;

        Pot copy() {
            try {
                Pot p = (Pot) clone();
                p.row = row.clone();
                return p;
            } catch (CloneNotSupportedException e) {
                throw new IllegalStateException(e);
            }
        }

        int clear(int sum, int fact) { return sum; }
        int sets(int x) { trace.add(10); return x + number; }
        int shows(int x) { trace.add(11); return sets(x) - v; }
        int tells(int x) { trace.add(12); return shows(x) * 2; }
    }

    static class Damson extends Pot {
        int clear(int sum, int fact) { return sum + v; }
        int shows(int x) { trace.add(20); return super.shows(x) ^ 6; }
    }

    static class Plum extends Pot {
        int clear(int sum, int fact) { return (sum < 0 ? -1 : 1) * (Math.abs(sum) >> 1); }
        int sets(int x) { trace.add(30); return super.sets(x * 3); }
    }

    static class Berry extends Pot {
        int clear(int sum, int fact) { return sum - opened - opened; }
        int tells(int x) { trace.add(40); return super.tells(x) + shows(1); }
    }

    static class Quince extends Damson {
        int clear(int sum, int fact) { return age < v ? 0 : super.clear(sum, fact); }
        int sets(int x) { trace.add(50); return -super.sets(x); }
        int shows(int x) { trace.add(51); return super.shows(x + 1); }
    }

    static class Wasp extends Plum {
        int clear(int sum, int fact) { return super.clear(sum, fact) - (fact & 1) * 6; }
        int tells(int x) { trace.add(60); return super.tells(x - number); }
    }

    static class Told extends Berry {
        int clear(int sum, int fact) { return super.clear(sum, fact) + row[fact % 4] - 4; }
        int shows(int x) { trace.add(70); return super.shows(x) + super.sets(2); }
        int sets(int x) { trace.add(71); return super.sets(x) ^ v; }
    }

    static Pot made(int kind) {
        Pot[] all = {new Pot(), new Damson(), new Plum(), new Berry(), new Quince(), new Wasp(), new Told()};
        all[kind].kind = kind;
        return all[kind];
    }

    static boolean isA(Pot p, int k) {
        Class<?>[] all = {Pot.class, Damson.class, Plum.class, Berry.class, Quince.class, Wasp.class, Told.class};
        return all[k].isInstance(p);
    }

    // ---- CELLARS

    /** All ends of the ways to read a part from a place on; how far any way came. */
    static final class Ways {
        final String text;
        int furthest = 0;

        Ways(String text) { this.text = text; }

        TreeSet<Integer> one(TreeSet<Integer> from, String signs) {
            TreeSet<Integer> to = new TreeSet<>();
            for (int at : from) {
                furthest = Math.max(furthest, at);
                if (at < text.length() && signs.indexOf(text.charAt(at)) >= 0) {
                    to.add(at + 1);
                }
            }
            return to;
        }

        TreeSet<Integer> word(TreeSet<Integer> from, String word) {
            TreeSet<Integer> to = from;
            for (char c : word.toCharArray()) {
                to = one(to, String.valueOf(c));
            }
            return to;
        }

        TreeSet<Integer> number(TreeSet<Integer> from) {
            TreeSet<Integer> to = one(from, "0123456789");
            to.addAll(one(to, "0123456789"));
            return to;
        }

        TreeSet<Integer> f(TreeSet<Integer> from, int depth) {
            TreeSet<Integer> to = number(one(one(from, "pkvfsa"), "<=>"));
            if (from.isEmpty() || depth == 4) {
                return to;
            }
            TreeSet<Integer> not = one(from, "!");
            if (!not.isEmpty()) {
                to.addAll(f(not, depth + 1));
            }
            TreeSet<Integer> open = one(from, "(");
            if (!open.isEmpty()) {
                to.addAll(one(e(open, depth + 1), ")"));
            }
            return to;
        }

        TreeSet<Integer> t(TreeSet<Integer> from, int depth) {
            TreeSet<Integer> to = f(from, depth);
            TreeSet<Integer> more = one(to, "&");
            if (!more.isEmpty()) {
                to.addAll(t(more, depth));
            }
            return to;
        }

        TreeSet<Integer> e(TreeSet<Integer> from, int depth) {
            TreeSet<Integer> to = t(from, depth);
            TreeSet<Integer> more = one(to, "|");
            if (!more.isEmpty()) {
                to.addAll(e(more, depth));
            }
            return to;
        }

        TreeSet<Integer> clause(TreeSet<Integer> from) {
            TreeSet<Integer> to = number(word(from, "keep "));
            TreeSet<Integer> weighed = word(from, "sweet ");
            weighed.addAll(word(from, "haze "));
            to.addAll(e(word(number(weighed), " "), 0));
            return to;
        }

        /** -1: it is a CELLAR. */
        int fault() {
            TreeSet<Integer> at = new TreeSet<>();
            at.add(0);
            for (int clauses = 1; clauses <= 10; clauses++) {
                at = clause(at);
                if (at.contains(text.length())) {
                    return -1;
                }
                // It may be whole up to where a sign that does not go on stands.
                for (int end : at) {
                    furthest = Math.max(furthest, end);
                }
                if (clauses < 10) {
                    at = one(at, ";");
                }
            }
            return furthest;
        }
    }

    /** Whether E holds, cut at the outermost sign that binds least. */
    static boolean holds(String e, Pot p, int fact) {
        for (char op : new char[] {'|', '&'}) {
            int depth = 0;
            for (int i = 0; i < e.length(); i++) {
                char c = e.charAt(i);
                depth += c == '(' ? 1 : c == ')' ? -1 : 0;
                if (depth == 0 && c == op) {
                    boolean left = holds(e.substring(0, i), p, fact);
                    boolean right = holds(e.substring(i + 1), p, fact);
                    return op == '|' ? left || right : left && right;
                }
            }
        }
        if (e.charAt(0) == '!') {
            return !holds(e.substring(1), p, fact);
        }
        if (e.charAt(0) == '(') {
            return holds(e.substring(1, e.length() - 1), p, fact);
        }
        int[] values = {p.number, p.kind, p.v, fact, p.sugar, p.age % 10};
        int value = values["pkvfsa".indexOf(e.charAt(0))];
        int n = Integer.parseInt(e.substring(2));
        return Integer.compare(value, n) == "<=>".indexOf(e.charAt(1)) - 1;
    }

    static int sum(String cellar, Pot p, int fact) {
        int sum = p.sugar;
        if (cellar != null) {
            for (String clause : cellar.split(";")) {
                String[] parts = clause.split(" ");
                if (parts.length == 3 && holds(parts[2], p, fact)) {
                    int n = Integer.parseInt(parts[1]);
                    sum += parts[0].equals("sweet") ? n : -n;
                }
            }
        }
        return sum;
    }

    static int keep(String cellar) {
        int keep = 5;
        if (cellar != null) {
            for (String clause : cellar.split(";")) {
                String[] parts = clause.split(" ");
                if (parts[0].equals("keep")) {
                    keep = Integer.parseInt(parts[1]);
                }
            }
        }
        return keep;
    }

    // ---- all that is

    static final class All {
        int world, term, holds = -1;
        List<Pot> pots = new ArrayList<>();
        List<int[]> heard = new ArrayList<>(), plan = new ArrayList<>(), book = new ArrayList<>();

        All copy() {
            All a = new All();
            a.world = world;
            a.term = term;
            a.holds = holds;
            for (Pot p : pots) {
                a.pots.add(p.copy());
            }
            a.heard.addAll(heard);
            a.plan.addAll(plan);
            a.book.addAll(book);
            return a;
        }
    }

    All now = new All();
    All image = null;
    String text = "";
    final List<String> cellars = new ArrayList<>();
    final List<Integer> trace = new ArrayList<>();
    final Object[] tapes = new Object[6];

    String holding() { return now.holds < 0 ? null : cellars.get(now.holds); }
    static boolean in(int n, int least, int most) { return n >= least && n <= most; }
    boolean isPot(int n) { return in(n, 0, now.pots.size() - 1); }
    int clear(Pot p, int fact) { return p.clear(sum(holding(), p, fact), fact); }

    int says(Pot p, int fact, int world) {
        int clear = clear(p, fact);
        int so = (world & (1 << fact)) == 0 ? 0 : 1;
        return clear >= 4 ? so : clear < 0 ? 1 - so : -5;
    }

    void term(All all) {
        int keep = keep(holding());
        for (Pot p : all.pots) {
            p.age++;
            if (keep > 0 && p.age % keep == 0 && p.sugar < 9) {
                p.sugar++;
            }
        }
        all.term++;
    }

    static void open(Pot p) {
        if (p.opened < 9) {
            p.opened++;
        }
        if (p.sugar > 0) {
            p.sugar--;
        }
    }

    List<Integer> fits() {
        List<Integer> fits = new ArrayList<>();
        for (int world = 0; world < 256; world++) {
            boolean all = true;
            for (int[] h : now.heard) {
                int said = says(now.pots.get(h[0]), h[1], world);
                all &= said == (h[2] == -1 ? -5 : h[2]);
            }
            if (all) {
                fits.add(world);
            }
        }
        return fits;
    }

    int next() {
        List<Integer> fits = fits();
        if (fits.isEmpty() || now.pots.isEmpty()) {
            return -5;
        }
        int best = -5, least = 1000;
        for (int p = 0; p < now.pots.size(); p++) {
            for (int f = 0; f < 8; f++) {
                int[] left = new int[3];
                for (int world : fits) {
                    int said = says(now.pots.get(p), f, world);
                    left[said == -5 ? 2 : said]++;
                }
                int greatest = Math.max(left[0], Math.max(left[1], left[2]));
                if (greatest < least) {
                    least = greatest;
                    best = 10 * p + f;
                }
            }
        }
        return best;
    }

    boolean bearsOut(Pot p) {
        for (int[] h : now.heard) {
            if (h[0] == p.number && says(p, h[1], now.world) != (h[2] == -1 ? -5 : h[2])) {
                return false;
            }
        }
        return true;
    }

    All after(int n) {
        All all = now.copy();
        for (int i = 0; i < n; i++) {
            term(all);
        }
        return all;
    }

    static int sugars(All all) { return all.pots.stream().mapToInt(p -> p.sugar).sum(); }

    // ---- calls

    int pot(int kind, int v, int sugar) {
        if (!in(kind, 0, 6)) return NONE;
        if (!in(v, 0, 9) || !in(sugar, 0, 9)) return BAD;
        if (now.pots.size() == 6) return FULL;
        Pot p = made(kind);
        p.number = now.pots.size();
        p.v = v;
        p.sugar = sugar;
        p.trace = trace;
        now.pots.add(p);
        return p.number;
    }

    int of(int pot, int what) {
        if (!isPot(pot)) return -10001;
        Pot p = now.pots.get(pot);
        if (what == 0) return p.kind;
        if (what == 1) return p.v;
        if (what == 2) return p.sugar;
        if (what == 3) return p.age;
        if (what == 4) return p.opened;
        if (what == 5) {
            int bits = 0;
            for (int s = 0; s < 10; s++) {
                Pot other = p.copy();
                other.sugar = s;
                if (bearsOut(other)) bits += 1 << s;
            }
            return bits;
        }
        if (in(what, 10, 17)) return clear(p, what - 10);
        if (in(what, 20, 27)) return says(p, what - 20, now.world);
        if (in(what, 30, 37)) {
            for (int n = 0; n <= 60; n++) {
                if (clear(after(n).pots.get(pot), what - 30) >= 4) return n;
            }
            return -5;
        }
        return -10001;
    }

    int world(int facts) {
        if (!in(facts, 0, 255)) return BAD;
        int was = now.world;
        now.world = facts;
        return was;
    }

    int sugar(int pot, int n) {
        if (!isPot(pot)) return NONE;
        if (!in(n, 0, 9)) return BAD;
        int was = now.pots.get(pot).sugar;
        now.pots.get(pot).sugar = n;
        return was;
    }

    int spoon(int pot, int fact) {
        if (!isPot(pot) || !in(fact, 0, 7)) return -10001;
        int said = says(now.pots.get(pot), fact, now.world);
        open(now.pots.get(pot));
        return said;
    }

    int row(int pot, int part, int n) {
        if (!isPot(pot) || !in(part, 0, 3)) return NONE;
        if (!in(n, 0, 9)) return BAD;
        Pot p = now.pots.get(pot);
        if (p.kind != 6) return STATE;
        int was = p.row[part];
        p.row[part] = n;
        return was;
    }

    int feed(int sign) {
        if (!in(sign, 0, 127)) return BAD;
        if (text.length() == 100) return FULL;
        text += (char) sign;
        return text.length();
    }

    int cellar() {
        if (cellars.size() == 6) return FULL;
        int fault = new Ways(text).fault();
        if (fault < 0) {
            cellars.add(text);
            now.holds = cellars.size() - 1;
        }
        text = "";
        return fault < 0 ? now.holds : -10 - fault;
    }

    int told(int what) {
        if (what == 0) return now.term;
        if (what == 1) return keep(holding());
        if (what == 2) return now.world;
        if (what == 3) return fits().size();
        if (what == 4) return fits().isEmpty() ? -5 : fits().get(0);
        if (what == 5) return fits().isEmpty() ? 0 : fits().stream().reduce(255, (a, b) -> a & b);
        if (what == 6) return 255 - fits().stream().reduce(0, (a, b) -> a | b);
        if (what == 7) return next();
        if (!in(what, 10, 17)) return -10001;
        int found = 0;
        for (Pot p : now.pots) {
            int said = says(p, what - 10, now.world);
            found += said == 1 ? Math.abs(clear(p, what - 10)) : said == 0 ? -Math.abs(clear(p, what - 10)) : 0;
        }
        return found;
    }

    int pass(int n) {
        if (!in(n, 0, 60)) return BAD;
        if (now.term + n > 9999) return STATE;
        now = after(n);
        return now.term;
    }

    int on(int n, int what) {
        boolean one = in(what, 10, 15) && isPot(what - 10), says = in(what, 20, 25) && isPot(what - 20);
        if (what != 0 && !one && !says) return -10001;
        if (!in(n, 0, 60)) return BAD;
        if (what == 0) return sugars(after(n));
        return one ? after(n).pots.get(what - 10).sugar : says(after(n).pots.get(what - 20), 0, now.world);
    }

    int cases(int facts, int what) {
        if (!in(what, 0, 1)) return NONE;
        if (!in(facts, 0, 255)) return BAD;
        return what == 0 ? enough(facts) : own(facts, 0, 0);
    }

    private int enough(int facts) {
        for (int size = 0; size <= now.pots.size(); size++) {
            for (int set = 0; set < 1 << now.pots.size(); set++) {
                boolean all = Integer.bitCount(set) == size;
                for (int f = 0; f < 8 && all; f++) {
                    boolean told = (facts & (1 << f)) == 0;
                    for (int p = 0; p < now.pots.size(); p++) {
                        told |= (set & (1 << p)) != 0 && says(now.pots.get(p), f, 0) != -5;
                    }
                    all = told;
                }
                if (all) return set;
            }
        }
        return -5;
    }

    private int own(int facts, int fact, int given) {
        if (fact == 8) return 0;
        int best = own(facts, fact + 1, given);
        if ((facts & (1 << fact)) != 0) {
            for (int p = 0; p < now.pots.size(); p++) {
                if ((given & (1 << p)) == 0 && says(now.pots.get(p), fact, 0) != -5) {
                    best = Math.max(best, 1 + own(facts, fact + 1, given | 1 << p));
                }
            }
        }
        return best;
    }

    int hear(int pot, int fact, int says) {
        if (pot == -1) {
            now.heard.clear();
            return 0;
        }
        if (!isPot(pot) || !in(fact, 0, 7)) return NONE;
        if (!in(says, -1, 1)) return BAD;
        if (now.heard.size() == 6) return FULL;
        now.heard.add(new int[] {pot, fact, says});
        return now.heard.size();
    }

    int can(int pot, int what) {
        if (!isPot(pot) || !in(what, 0, 1)) return NONE;
        int many = 0, least = -5;
        for (int v = 9; v >= 0; v--) {
            Pot other = now.pots.get(pot).copy();
            other.v = v;
            if (bearsOut(other)) {
                many++;
                least = v;
            }
        }
        return what == 0 ? many : least;
    }

    private static long fraction(long above, long below, int part) {
        for (long d = below; d > 1; d--) {
            if (above % d == 0 && below % d == 0) {
                return (part == 0 ? above : below) / d;
            }
        }
        return part == 0 ? above : below;
    }

    long odds(int fact, int part) {
        if (!in(fact, 0, 7) || !in(part, 0, 1) || fits().isEmpty()) return NO;
        long so = fits().stream().filter(w -> (w & (1 << fact)) != 0).count();
        return fraction(so, fits().size(), part);
    }

    long mean(int n, int part) {
        if (!in(n, 0, 60) || !in(part, 0, 1) || now.pots.isEmpty()) return NO;
        return fraction(sugars(after(n)), now.pots.size(), part);
    }

    int plan(int what, int n) {
        if (what == -1) {
            now.plan.clear();
            return 0;
        }
        if (!in(what, 0, 3)) return NONE;
        if (what == 1 && (n < 0 || !isPot(n / 10) || !in(n % 10, 0, 7))) return NONE;
        if (what == 2 && !isPot(n)) return NONE;
        if (what == 3 && !in(n, 0, 7)) return NONE;
        if (now.plan.size() == 10) return FULL;
        now.plan.add(new int[] {what, n});
        return now.plan.size();
    }

    int ends(int what) {
        if (!in(what, 0, 1)) return NONE;
        All all = now.copy();
        for (int[] row : now.plan) {
            if (row[0] == 0) term(all);
            if (row[0] == 1) open(all.pots.get(row[1] / 10));
            if (row[0] == 2) all.pots.get(row[1]).sugar = 0;
            if (row[0] == 3) all.world ^= 1 << row[1];
        }
        return what == 0 ? sugars(all) : all.pots.stream().mapToInt(p -> p.opened).sum();
    }

    int book(int pot, int sugar) {
        if (pot == -1) {
            now.book.clear();
            return 0;
        }
        if (!isPot(pot)) return NONE;
        if (!in(sugar, 0, 9)) return BAD;
        if (now.book.size() == 8) return FULL;
        now.book.add(new int[] {pot, sugar});
        return now.book.size();
    }

    int looked() {
        for (int i = 0; i < now.book.size(); i++) {
            if (now.pots.get(now.book.get(i)[0]).sugar != now.book.get(i)[1]) return i;
        }
        return -5;
    }

    int image() {
        image = now.copy();
        return now.pots.size();
    }

    int undo() {
        if (image == null) return STATE;
        now = image.copy();
        return now.pots.size();
    }

    int act(int pot, int act, int x) {
        trace.clear();
        if (!isPot(pot) || !in(act, 0, 2)) return 0;
        Pot p = now.pots.get(pot);
        return act == 0 ? p.sets(x) : act == 1 ? p.shows(x) : p.tells(x);
    }

    int trace(int i) { return in(i, 0, Math.min(trace.size(), 20) - 1) ? trace.get(i) : NONE; }

    int taken(int pot, int k) {
        if (!in(k, 0, 6)) return BAD;
        if (!isPot(pot)) return -11;
        return isA(now.pots.get(pot), k) ? now.pots.get(pot).kind : -12;
    }

    int count(int what) {
        int[] counts = {now.pots.size(), cellars.size(), now.heard.size(), now.plan.size(), now.book.size(),
            text.length(), trace.size()};
        return in(what, 0, 6) ? counts[what] : BAD;
    }

    // ---- TAPES, as the host's own arrays

    private static int size(Object tape) { return java.lang.reflect.Array.getLength(tape); }

    int tape(int tape, int sort, int n) {
        if (!in(tape, 0, 5)) return NONE;
        if (!in(sort, -1, 4)) return BAD;
        if (sort >= 0 && n > 60) return BAD;
        if (sort >= 0 && n < 0) return -14;
        tapes[tape] = sort == 0 ? new byte[n] : sort == 1 ? new short[n] : sort == 2 ? new int[n]
            : sort == 3 ? new long[n] : sort == 4 ? new boolean[n] : null;
        return 1;
    }

    int item(int tape, int i, long v) {
        if (!in(tape, 0, 5)) return NONE;
        Object t = tapes[tape];
        if (t == null) return -11;
        if (!in(i, 0, size(t) - 1)) return -13;
        if (t instanceof byte[] a) a[i] = (byte) v;
        if (t instanceof short[] a) a[i] = (short) v;
        if (t instanceof int[] a) a[i] = (int) v;
        if (t instanceof long[] a) a[i] = v;
        if (t instanceof boolean[] a) a[i] = v != 0;
        return 1;
    }

    long read(int tape, int i) {
        if (!in(tape, 0, 5) || tapes[tape] == null || !in(i, 0, size(tapes[tape]) - 1)) return NO;
        Object t = tapes[tape];
        return t instanceof boolean[] a ? (a[i] ? 1 : 0) : java.lang.reflect.Array.getLong(t, i);
    }

    int shift(int tape, int i, int other, int j, int n) {
        if (!in(tape, 0, 5) || !in(other, 0, 5)) return NONE;
        try {
            System.arraycopy(tapes[tape], i, tapes[other], j, n);
        } catch (NullPointerException e) {
            return -11;
        } catch (ArrayStoreException e) {
            return -12;
        } catch (IndexOutOfBoundsException e) {
            return -13;
        }
        return n;
    }

    int judge(int tape, int i) {
        if (!in(tape, 0, 5)) return NONE;
        Object t = tapes[tape];
        if (t == null) return 100;
        if (!(t instanceof boolean[] a)) return -12;
        for (int f = 0; f < 8; f++) {
            if (i < 0 || (long) i + f >= a.length) return 100 + f;
            if (a[i + f] != ((now.world & (1 << f)) != 0)) return f;
        }
        return -5;
    }
}
