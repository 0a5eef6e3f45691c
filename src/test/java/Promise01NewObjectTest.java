/** Promise 1: a new object. */
public final class Promise01NewObjectTest extends Sentences {
    public static void main(String[] args) {
        run(Promise01NewObjectTest.class);
    }

    /** "No POTS". */
    static void noPots() {
        Jam j = new Jam();
        due(j.count(0), 0);
        due(j.of(0, 0), NO_SUCH);
        due(j.spoon(0, 0), NO_SUCH);
        due(j.sugar(0, 0), NONE);
        due(j.taken(0, 0), NOTHING);
        due(j.on(0, 0), 0);
        due(j.told(10), 0);
        due(j.pot(POT, 0, 0), 0);
    }

    /** "no CELLAR"; "without one there are no CLAUSES". */
    static void noCellar() {
        Jam j = new Jam();
        due(j.count(1), 0);
        j.pot(POT, 0, 7);
        for (int fact = 0; fact < 8; fact++) {
            due(j.of(0, 10 + fact), 7);
        }
        due(j.cellarOf("keep 1"), 0);
    }

    /** "KEEP (5 without)". */
    static void keepIs5AtFirst() {
        due(new Jam().told(1), 5);
    }

    /** "THE WORLD is the one it was (0 at first)". */
    static void theWorldIs0AtFirst() {
        due(new Jam().told(2), 0);
        due(new Jam().world(9), 0);
    }

    /** "TERM: 0 at first." */
    static void termIs0AtFirst() {
        due(new Jam().told(0), 0);
        due(new Jam().pass(0), 0);
    }

    /** THE TEXT has no bytes yet. */
    static void theTextIsEmptyAtFirst() {
        due(new Jam().count(5), 0);
        due(new Jam().feed('k'), 1);
    }

    /** Nothing is HEARD, planned or booked yet. */
    static void nothingIsToldByHandAtFirst() {
        Jam j = new Jam();
        due(j.count(2), 0);
        due(j.count(3), 0);
        due(j.count(4), 0);
        due(j.looked(), SILENT);
        due(j.ends(0), 0);
        due(j.ends(1), 0);
    }

    /** "TAPES 0 .. 5 hold nothing (at first)". */
    static void tapesHoldNothingAtFirst() {
        Jam j = new Jam();
        for (int t = 0; t < 6; t++) {
            due(j.item(t, 0, 1), NOTHING);
            due(j.read(t, 0), NO);
            due(j.judge(t, 0), 100);
        }
    }

    /** No IMAGE was taken. */
    static void thereIsNoImageAtFirst() {
        due(new Jam().undo(), STATE);
    }

    /** No body ran. */
    static void thereIsNoTraceAtFirst() {
        due(new Jam().count(6), 0);
        due(new Jam().trace(0), NONE);
    }

    /** What is done to one object is not done to another, made ahead of that or behind it. */
    static void objectsShareNothing() {
        Jam ahead = new Jam();
        Jam other = Jam.busy();
        Jam behind = new Jam();
        for (Jam j : new Jam[] {ahead, behind}) {
            for (int what = 0; what <= 6; what++) {
                due(j.count(what), 0);
            }
            due(j.told(0), 0);
            due(j.told(1), 5);
            due(j.told(2), 0);
            due(j.read(0, 0), NO);
            due(j.undo(), STATE);
        }
        due(other.count(0), 3);
    }

    /** "An object is used for at most 512 calls": the last of them answers as the first. */
    static void the512thCallAnswers() {
        Jam j = new Jam();
        j.pot(POT, 0, 9);
        for (int call = 2; call <= 511; call++) {
            due(j.world(call % 256), call == 2 ? 0 : (call - 1) % 256);
        }
        due(j.world(0), 511 % 256);
    }
}
