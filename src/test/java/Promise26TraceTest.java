/** Promise 26: trace. */
public final class Promise26TraceTest extends Sentences {
    public static void main(String[] args) {
        run(Promise26TraceTest.class);
    }

    /** "NONE": no act() yet. */
    static void noneAtFirst() {
        for (int i : new int[] {0, 1, 19, -1}) {
            due(new Jam().trace(i), NONE);
        }
    }

    /** "THE TRACE's i-th body", from 0 on, "as they began". */
    static void asTheyBegan() {
        Jam j = Jam.withPot(QUINCE, 0, 0);
        j.act(0, 2, 1);
        int[] bodies = {12, 51, 20, 11, 50, 10};
        for (int i = 0; i < bodies.length; i++) {
            due(j.trace(i), bodies[i]);
        }
    }

    /** "NONE": below 0, and from the number of those that ran on. */
    static void noSuchPlaceIsNone() {
        Jam j = Jam.withPot(PLUM, 0, 0);
        j.act(0, 0, 1);
        due(j.trace(1), 10);
        for (int i : outside(0, 1)) {
            due(j.trace(i), NONE);
        }
        for (int i : new int[] {3, 18, 19, 20, 21}) {
            due(j.trace(i), NONE);
        }
    }

    /** "in the latest act()": what an earlier one ran is gone, though it ran more. */
    static void theLatestAlone() {
        Jam j = new Jam();
        j.pot(TOLD, 0, 0);
        j.pot(POT, 0, 0);
        j.act(0, 2, 1);
        due(j.trace(11), 10);
        due(j.trace(12), NONE);
        j.act(1, 0, 1);
        due(j.trace(0), 10);
        for (int i = 1; i < 12; i++) {
            due(j.trace(i), NONE);
        }
    }

    /** "and no TRACE then": by an act() of no POT. */
    static void noneThen() {
        Jam j = Jam.withPot(TOLD, 0, 0);
        j.act(0, 2, 1);
        j.act(1, 2, 1);
        due(j.trace(0), NONE);
        j.act(0, 2, 1);
        j.act(0, 3, 1);
        due(j.trace(0), NONE);
    }

    /** "the first 20 are kept": the most that run are 12, and all of them are kept. */
    static void theMostAreKept() {
        Jam j = Jam.withPot(TOLD, 9, 9);
        j.act(0, 2, 1);
        due(j.count(6), 12);
        int[] bodies = {40, 12, 70, 11, 71, 10, 10, 70, 11, 71, 10, 10};
        for (int i = 0; i < 12; i++) {
            due(j.trace(i), bodies[i]);
        }
    }

    /** Calls other than act() leave it. */
    static void otherCallsLeaveIt() {
        Jam j = Jam.withPot(PLUM, 0, 0);
        j.act(0, 0, 1);
        j.spoon(0, 0);
        j.pass(1);
        j.taken(0, 0);
        j.image();
        j.undo();
        due(j.trace(0), 30);
        due(j.trace(1), 10);
        due(j.count(6), 2);
    }

    /** "what is asked changes nothing". */
    static void askedChangesNothing() {
        changesNothing(j -> {
            for (int i = -1; i <= 21; i++) {
                j.trace(i);
            }
        });
    }
}
