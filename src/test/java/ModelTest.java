import java.util.Random;

/** Long runs of calls, drawn with fixed seeds, on the program and on the Model side by side. */
public final class ModelTest {
    private static final int RUNS = 1500, CALLS = 500;
    private static int wrong = 0;
    private static long calls = 0;

    private final Random draw;
    private final JamOath jam = new JamOath();
    private final Model model = new Model();
    private final StringBuilder log = new StringBuilder();
    private boolean agreed = true;
    private int made = 0;

    private ModelTest(long seed) {
        draw = new Random(seed);
    }

    public static void main(String[] args) {
        for (int seed = 0; seed < RUNS && wrong < 5; seed++) {
            new ModelTest(seed).run();
        }
        System.out.println("ModelTest: " + calls + " calls, " + wrong + " runs otherwise");
        if (wrong != 0 || calls < 100_000) {
            System.exit(1);
        }
    }

    private void run() {
        int warm = draw.nextInt(7);
        for (int i = 0; i < warm; i++) {
            potCall();
        }
        while (agreed && made < CALLS) {
            call();
        }
        if (!agreed) {
            wrong++;
            System.out.println(log);
        }
    }

    private void same(String call, long got, long want) {
        made++;
        calls++;
        log.append(call).append(" = ").append(got).append('\n');
        if (got != want && agreed) {
            agreed = false;
            log.append("   the Model: ").append(want).append('\n');
        }
    }

    /** Mostly within, at times just outside, rarely far off. */
    private int about(int least, int most) {
        int die = draw.nextInt(40);
        if (die == 0) {
            return least - 1;
        }
        if (die == 1) {
            return most + 1;
        }
        if (die == 2) {
            int[] far = {Integer.MIN_VALUE, Integer.MAX_VALUE, -1000, 1000, Integer.MAX_VALUE - 3, -2, -10};
            return far[draw.nextInt(far.length)];
        }
        return least + draw.nextInt(most - least + 1);
    }

    private int aPot() {
        int n = model.now.pots.size();
        return n == 0 || draw.nextInt(12) == 0 ? about(0, 5) : draw.nextInt(n);
    }

    private void potCall() {
        int k = about(0, 6), v = about(0, 9), s = about(0, 9);
        same("pot(" + k + "," + v + "," + s + ")", jam.pot(k, v, s), model.pot(k, v, s));
    }

    private void call() {
        switch (draw.nextInt(26)) {
            case 0 -> {
                if (draw.nextInt(3) == 0) {
                    potCall();
                }
            }
            case 1, 2, 3 -> {
                int[] kinds = {0, 10, 20, 30};
                int p = aPot(), w = kinds[draw.nextInt(4)] + about(0, 7);
                same("of(" + p + "," + w + ")", jam.of(p, w), model.of(p, w));
            }
            case 4 -> {
                int f = about(0, 255);
                same("world(" + f + ")", jam.world(f), model.world(f));
            }
            case 5 -> {
                int p = aPot(), n = about(0, 9);
                same("sugar(" + p + "," + n + ")", jam.sugar(p, n), model.sugar(p, n));
            }
            case 6 -> {
                int p = aPot(), f = about(0, 7);
                same("spoon(" + p + "," + f + ")", jam.spoon(p, f), model.spoon(p, f));
            }
            case 7 -> {
                int p = aPot(), part = about(0, 3), n = about(0, 9);
                same("row(" + p + "," + part + "," + n + ")", jam.row(p, part, n), model.row(p, part, n));
            }
            case 8 -> {
                if (made < CALLS - 102 && draw.nextInt(4) == 0) {
                    cellarCalls();
                }
            }
            case 9, 10 -> {
                int w = about(0, 17);
                same("told(" + w + ")", jam.told(w), model.told(w));
            }
            case 11 -> {
                int n = draw.nextBoolean() ? about(0, 60) : draw.nextInt(4);
                same("pass(" + n + ")", jam.pass(n), model.pass(n));
            }
            case 12 -> {
                int n = about(0, 60), w = draw.nextInt(3) * 10 + (draw.nextInt(4) == 0 ? about(0, 9) : aPot());
                same("on(" + n + "," + w + ")", jam.on(n, w), model.on(n, w));
            }
            case 13 -> {
                int f = about(0, 255), w = about(0, 1);
                same("cases(" + f + "," + w + ")", jam.cases(f, w), model.cases(f, w));
            }
            case 14, 15 -> hearCall();
            case 16 -> {
                int p = aPot(), w = about(0, 1);
                same("can(" + p + "," + w + ")", jam.can(p, w), model.can(p, w));
            }
            case 17 -> {
                int f = about(0, 7), part = about(0, 1);
                same("odds(" + f + "," + part + ")", jam.odds(f, part), model.odds(f, part));
            }
            case 18 -> {
                int n = about(0, 60), part = about(0, 1);
                same("mean(" + n + "," + part + ")", jam.mean(n, part), model.mean(n, part));
            }
            case 19 -> planCalls();
            case 20 -> bookCalls();
            case 21 -> imageCall();
            case 22, 23 -> actCalls();
            case 24 -> {
                int w = about(0, 6);
                same("count(" + w + ")", jam.count(w), model.count(w));
            }
            default -> tapeCall();
        }
    }

    private void hearCall() {
        int p = draw.nextInt(10) == 0 ? -1 : aPot(), f = about(0, 7), s = about(-1, 1);
        if (model.isPot(p) && Model.in(f, 0, 7) && draw.nextInt(3) != 0) {
            // Mostly what it really says, so that something FITS.
            s = Math.max(-1, model.says(model.now.pots.get(p), f, model.now.world));
        }
        same("hear(" + p + "," + f + "," + s + ")", jam.hear(p, f, s), model.hear(p, f, s));
    }

    private void planCalls() {
        int w = draw.nextInt(20) == 0 ? -1 : about(0, 3);
        int n = w == 1 ? 10 * aPot() + about(0, 7) : w == 2 ? aPot() : about(0, 7);
        same("plan(" + w + "," + n + ")", jam.plan(w, n), model.plan(w, n));
        int e = about(0, 1);
        same("ends(" + e + ")", jam.ends(e), model.ends(e));
    }

    private void bookCalls() {
        int p = draw.nextInt(15) == 0 ? -1 : aPot(), s = about(0, 9);
        if (model.isPot(p) && draw.nextInt(4) != 0) {
            s = model.now.pots.get(p).sugar;
        }
        same("book(" + p + "," + s + ")", jam.book(p, s), model.book(p, s));
        same("looked()", jam.looked(), model.looked());
    }

    private void imageCall() {
        if (draw.nextInt(3) == 0) {
            same("image()", jam.image(), model.image());
        } else if (draw.nextInt(2) == 0) {
            same("undo()", jam.undo(), model.undo());
        }
    }

    private void actCalls() {
        int p = aPot(), a = about(0, 2), x = draw.nextBoolean() ? draw.nextInt() : about(-9, 9);
        same("act(" + p + "," + a + "," + x + ")", jam.act(p, a, x), model.act(p, a, x));
        int i = draw.nextInt(14) - 1;
        same("trace(" + i + ")", jam.trace(i), model.trace(i));
        int k = about(0, 6);
        same("taken(" + p + "," + k + ")", jam.taken(p, k), model.taken(p, k));
    }

    private void tapeCall() {
        int t = about(0, 5), i = draw.nextInt(4) == 0 ? about(0, 59) : about(0, 9);
        switch (draw.nextInt(7)) {
            case 0 -> {
                int sort = about(-1, 4), n = draw.nextBoolean() ? about(0, 60) : about(6, 20);
                same("tape(" + t + "," + sort + "," + n + ")", jam.tape(t, sort, n), model.tape(t, sort, n));
            }
            case 1, 2 -> {
                long v = draw.nextInt(3) == 0 ? draw.nextLong() : draw.nextInt(2);
                same("item(" + t + "," + i + "," + v + ")", jam.item(t, i, v), model.item(t, i, v));
            }
            case 3 -> same("read(" + t + "," + i + ")", jam.read(t, i), model.read(t, i));
            case 4 -> judgeCalls(t, i);
            default -> {
                int o = draw.nextBoolean() ? t : about(0, 5), j = about(0, 9), n = about(0, 12);
                same("shift(" + t + "," + i + "," + o + "," + j + "," + n + ")", jam.shift(t, i, o, j, n),
                    model.shift(t, i, o, j, n));
            }
        }
    }

    private void judgeCalls(int t, int i) {
        if (draw.nextBoolean()) {
            int upTo = about(0, 9);
            for (int f = 0; f <= Math.min(upTo, 8) && f < 8; f++) {
                long v = (model.now.world >> f) & 1;
                same("item(" + t + "," + (i + f) + "," + v + ")", jam.item(t, i + f, v), model.item(t, i + f, v));
            }
        }
        same("judge(" + t + "," + i + ")", jam.judge(t, i), model.judge(t, i));
    }

    // ---- texts

    private void cellarCalls() {
        StringBuilder text = new StringBuilder();
        int clauses = draw.nextInt(10) == 0 ? 9 + draw.nextInt(3) : 1 + draw.nextInt(4);
        for (int i = 0; i < clauses; i++) {
            text.append(i == 0 ? "" : ";");
            if (clauses > 5 || draw.nextInt(5) == 0) {
                text.append("keep ").append(aNumber(60));
            } else {
                text.append(draw.nextBoolean() ? "sweet " : "haze ").append(aNumber(12)).append(' ').append(anE(0));
            }
        }
        if (draw.nextInt(3) == 0 && text.length() > 0) {
            int at = draw.nextInt(text.length());
            String some = "sweethazekeep ;|&!()pkvfsa<=>0123456789xz\0";
            char c = some.charAt(draw.nextInt(some.length()));
            switch (draw.nextInt(4)) {
                case 0 -> text.setCharAt(at, c);
                case 1 -> text.insert(at, c);
                case 2 -> text.deleteCharAt(at);
                default -> text.setLength(at);
            }
        }
        for (int i = 0; i < Math.min(text.length(), 101); i++) {
            int sign = text.charAt(i);
            same("feed(" + sign + ")", jam.feed(sign), model.feed(sign));
        }
        if (draw.nextInt(10) == 0) {
            int sign = about(0, 127);
            same("feed(" + sign + ")", jam.feed(sign), model.feed(sign));
        }
        same("cellar() of " + text, jam.cellar(), model.cellar());
    }

    private String aNumber(int below) {
        int n = draw.nextInt(below);
        return n < 10 && draw.nextInt(6) == 0 ? "0" + n : String.valueOf(n);
    }

    private String anE(int depth) {
        return draw.nextInt(4) == 0 ? aT(depth) + "|" + anE(depth) : aT(depth);
    }

    private String aT(int depth) {
        return draw.nextInt(4) == 0 ? anF(depth) + "&" + aT(depth) : anF(depth);
    }

    private String anF(int depth) {
        int most = draw.nextInt(20) == 0 ? 5 : 4;
        if (depth < most && draw.nextInt(3) == 0) {
            return draw.nextBoolean() ? "!" + anF(depth + 1) : "(" + anE(depth + 1) + ")";
        }
        return "" + "pkvfsa".charAt(draw.nextInt(6)) + "<=>".charAt(draw.nextInt(3)) + aNumber(10);
    }
}
