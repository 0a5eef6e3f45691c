import java.util.ArrayList;
import java.util.List;
import java.util.StringJoiner;

/**
 * A JamOath as the tests of the promises use it: the latest call is kept in words, for what is
 * printed, and no call comes behind the 512th, since those answer what they like.
 */
final class Jam {
    private static final int MOST_CALLS = 512;
    private static String last = "";
    private final JamOath jam = new JamOath();
    private int calls = 0;

    static String last() {
        return last;
    }

    private void told(String name, long... with) {
        calls++;
        if (calls > MOST_CALLS) {
            throw new IllegalStateException("a test calls one object more than " + MOST_CALLS + " times");
        }
        StringJoiner words = new StringJoiner(", ", name + "(", ")");
        for (long n : with) {
            words.add(String.valueOf(n));
        }
        last = words.toString();
    }

    // ---- the face

    int pot(int kind, int v, int sugar) {
        told("pot", kind, v, sugar);
        return jam.pot(kind, v, sugar);
    }

    int of(int pot, int what) {
        told("of", pot, what);
        return jam.of(pot, what);
    }

    int world(int facts) {
        told("world", facts);
        return jam.world(facts);
    }

    int sugar(int pot, int n) {
        told("sugar", pot, n);
        return jam.sugar(pot, n);
    }

    int spoon(int pot, int fact) {
        told("spoon", pot, fact);
        return jam.spoon(pot, fact);
    }

    int row(int pot, int part, int n) {
        told("row", pot, part, n);
        return jam.row(pot, part, n);
    }

    int feed(int sign) {
        told("feed", sign);
        return jam.feed(sign);
    }

    int cellar() {
        told("cellar");
        return jam.cellar();
    }

    int told(int what) {
        told("told", what);
        return jam.told(what);
    }

    int pass(int n) {
        told("pass", n);
        return jam.pass(n);
    }

    int on(int n, int what) {
        told("on", n, what);
        return jam.on(n, what);
    }

    int cases(int facts, int what) {
        told("cases", facts, what);
        return jam.cases(facts, what);
    }

    int hear(int pot, int fact, int says) {
        told("hear", pot, fact, says);
        return jam.hear(pot, fact, says);
    }

    int can(int pot, int what) {
        told("can", pot, what);
        return jam.can(pot, what);
    }

    long odds(int fact, int part) {
        told("odds", fact, part);
        return jam.odds(fact, part);
    }

    long mean(int n, int part) {
        told("mean", n, part);
        return jam.mean(n, part);
    }

    int plan(int what, int n) {
        told("plan", what, n);
        return jam.plan(what, n);
    }

    int ends(int what) {
        told("ends", what);
        return jam.ends(what);
    }

    int book(int pot, int sugar) {
        told("book", pot, sugar);
        return jam.book(pot, sugar);
    }

    int looked() {
        told("looked");
        return jam.looked();
    }

    int judge(int tape, int i) {
        told("judge", tape, i);
        return jam.judge(tape, i);
    }

    int image() {
        told("image");
        return jam.image();
    }

    int undo() {
        told("undo");
        return jam.undo();
    }

    int act(int pot, int act, int x) {
        told("act", pot, act, x);
        return jam.act(pot, act, x);
    }

    int trace(int i) {
        told("trace", i);
        return jam.trace(i);
    }

    int taken(int pot, int k) {
        told("taken", pot, k);
        return jam.taken(pot, k);
    }

    int count(int what) {
        told("count", what);
        return jam.count(what);
    }

    int tape(int tape, int sort, int n) {
        told("tape", tape, sort, n);
        return jam.tape(tape, sort, n);
    }

    int item(int tape, int i, long v) {
        told("item", tape, i, v);
        return jam.item(tape, i, v);
    }

    long read(int tape, int i) {
        told("read", tape, i);
        return jam.read(tape, i);
    }

    int shift(int tape, int i, int other, int j, int n) {
        told("shift", tape, i, other, j, n);
        return jam.shift(tape, i, other, j, n);
    }

    // ---- what several tests need

    void feedAll(String text) {
        for (int i = 0; i < text.length(); i++) {
            feed(text.charAt(i));
        }
    }

    int cellarOf(String text) {
        feedAll(text);
        int answer = cellar();
        last = last + " of '" + text + "'";
        return answer;
    }

    /** So many POTS of KIND POT, with v 0 and that SUGAR. */
    static Jam withPots(int many, int sugar) {
        Jam j = new Jam();
        for (int i = 0; i < many; i++) {
            j.pot(0, 0, sugar);
        }
        return j;
    }

    static Jam withPot(int kind, int v, int sugar) {
        Jam j = new Jam();
        j.pot(kind, v, sugar);
        return j;
    }

    /** TERM is 9999 then, and so is the AGE of each POT that was there from the beginning. */
    void passToTheLastTerm() {
        for (int i = 0; i < 166; i++) {
            pass(60);
        }
        pass(39);
    }

    /** One with something in all that it can hold, and with an IMAGE that is otherwise. */
    static Jam busy() {
        Jam j = new Jam();
        j.pot(0, 1, 6);
        j.world(0b1010);
        j.cellarOf("haze 1 f=2;keep 3");
        j.hear(0, 1, 1);
        j.plan(2, 0);
        j.book(0, 4);
        j.pass(2);
        j.image();
        j.pot(6, 3, 6);
        j.pot(5, 7, 9);
        j.row(1, 2, 8);
        j.cellarOf("sweet 3 f>3|s=2;keep 2");
        j.world(77);
        j.pass(3);
        j.spoon(1, 0);
        j.hear(1, 2, 1);
        j.hear(2, 1, 1);
        j.plan(1, 12);
        j.plan(0, 0);
        j.book(0, 8);
        j.book(1, 5);
        j.tape(0, 4, 3);
        j.item(0, 0, 1);
        j.tape(1, 2, 2);
        j.item(1, 1, -7);
        j.tape(2, 0, 0);
        j.act(1, 2, 5);
        j.feedAll("keep ");
        return j;
    }

    /** All that can be told apart from outside, THE IMAGE at the end; what was there is gone then. */
    List<String> all() {
        List<String> seen = new ArrayList<>();
        askInto(seen);
        note(seen, feed('8'));
        note(seen, cellar());
        note(seen, told(1));
        note(seen, undo());
        askInto(seen);
        return seen;
    }

    private static void note(List<String> seen, long answer) {
        seen.add(last + " = " + answer);
    }

    private void askInto(List<String> seen) {
        for (int what = 0; what <= 6; what++) {
            note(seen, count(what));
        }
        for (int what = 0; what <= 17; what++) {
            note(seen, told(what));
        }
        int pots = count(0);
        for (int p = 0; p < pots; p++) {
            for (int what = 0; what <= 5; what++) {
                note(seen, of(p, what));
            }
            for (int fact = 0; fact < 8; fact++) {
                note(seen, of(p, 10 + fact));
            }
            note(seen, of(p, 31));
        }
        note(seen, ends(0));
        note(seen, ends(1));
        note(seen, looked());
        int ran = count(6);
        for (int i = 0; i < ran; i++) {
            note(seen, trace(i));
        }
        for (int t = 0; t < 6; t++) {
            for (int i = 0; i < 4; i++) {
                note(seen, read(t, i));
            }
            // No items are moved, but unlike sorts are told.
            note(seen, shift(1, 0, t, 0, 0));
        }
        // Which SUGAR the BOOK tells shows only by trying.
        for (int n = 0; n <= 9; n++) {
            sugar(0, n);
            note(seen, looked());
        }
    }
}
