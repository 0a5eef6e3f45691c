/** Promise 32: shift. */
public final class Promise32ShiftTest extends Sentences {
    public static void main(String[] args) {
        run(Promise32ShiftTest.class);
    }

    /** TAPE 0: ints 1 2 3 4 5; TAPE 1: ints 0 0 0; TAPE 2: longs; TAPE 3 holds nothing. */
    private static Jam ready() {
        Jam j = new Jam();
        j.tape(0, INTS, 5);
        j.tape(1, INTS, 3);
        j.tape(2, LONGS, 5);
        for (int i = 0; i < 5; i++) {
            j.item(0, i, i + 1);
        }
        return j;
    }

    private static void holds(Jam j, int tape, long... want) {
        for (int i = 0; i < want.length; i++) {
            due(j.read(tape, i), want[i]);
        }
        due(j.read(tape, want.length), NO);
    }

    /** "n items of a TAPE from i on come to another one .. from j on ..: n". */
    static void toAnother() {
        Jam j = ready();
        due(j.shift(0, 1, 1, 1, 2), 2);
        holds(j, 0, 1, 2, 3, 4, 5);
        holds(j, 1, 0, 2, 3);
        due(j.shift(0, 2, 1, 0, 3), 3);
        holds(j, 1, 3, 4, 5);
    }

    /** "(or the same)", "as they all were before": on within one, over one another. */
    static void onWithinTheSame() {
        Jam j = ready();
        due(j.shift(0, 0, 0, 1, 4), 4);
        holds(j, 0, 1, 1, 2, 3, 4);
    }

    /** "(or the same)", "as they all were before": back within one. */
    static void backWithinTheSame() {
        Jam j = ready();
        due(j.shift(0, 1, 0, 0, 4), 4);
        holds(j, 0, 2, 3, 4, 5, 5);
        due(j.shift(0, 0, 0, 0, 5), 5);
        holds(j, 0, 2, 3, 4, 5, 5);
    }

    /** n 0: nothing comes, at the very ends, too. */
    static void noneCome() {
        Jam j = ready();
        due(j.shift(0, 0, 1, 0, 0), 0);
        due(j.shift(0, 5, 1, 3, 0), 0);
        due(j.shift(0, 5, 0, 5, 0), 0);
        holds(j, 0, 1, 2, 3, 4, 5);
        holds(j, 1, 0, 0, 0);
    }

    /** A whole row of 60, the most there are. */
    static void sixtyCome() {
        Jam j = new Jam();
        j.tape(4, BYTES, 60);
        j.tape(5, BYTES, 60);
        j.item(4, 0, 7);
        j.item(4, 59, 8);
        due(j.shift(4, 0, 5, 0, 60), 60);
        due(j.read(5, 0), 7);
        due(j.read(5, 59), 8);
        due(j.shift(4, 0, 5, 0, 61), PLACE);
    }

    /** Each sort comes to its like. */
    static void eachSort() {
        for (int sort = BYTES; sort <= BOOLEANS; sort++) {
            Jam j = new Jam();
            j.tape(0, sort, 2);
            j.tape(1, sort, 2);
            j.item(0, 0, 1);
            due(j.shift(0, 0, 1, 1, 1), 1);
            holds(j, 1, 0, 1);
        }
    }

    /** "NONE: tapes", either of them. */
    static void noSuchTapeIsNone() {
        Jam j = ready();
        for (int tape : outside(0, 5)) {
            due(j.shift(tape, 0, 0, 0, 1), NONE);
            due(j.shift(0, 0, tape, 0, 1), NONE);
            due(j.shift(tape, 0, tape, 0, 0), NONE);
        }
    }

    /** "NOTHING", either of them, and both. */
    static void nothingIsThere() {
        Jam j = ready();
        due(j.shift(3, 0, 0, 0, 1), NOTHING);
        due(j.shift(0, 0, 3, 0, 1), NOTHING);
        due(j.shift(3, 0, 4, 0, 0), NOTHING);
        due(j.shift(3, 0, 3, 0, 0), NOTHING);
    }

    /** "CAST: of unlike sorts", each with each, though no items come. */
    static void unlikeSortsAreCast() {
        for (int sort = BYTES; sort <= BOOLEANS; sort++) {
            for (int other = BYTES; other <= BOOLEANS; other++) {
                Jam j = new Jam();
                j.tape(0, sort, 2);
                j.tape(1, other, 2);
                due(j.shift(0, 0, 1, 0, 1), sort == other ? 1 : CAST);
                due(j.shift(0, 0, 1, 0, 0), sort == other ? 0 : CAST);
            }
        }
    }

    /** "PLACE: n .. is below 0". */
    static void nBelow0() {
        Jam j = ready();
        for (int n : new int[] {-1, -5, LOW, LOW + 5}) {
            due(j.shift(0, 0, 1, 0, n), PLACE);
            due(j.shift(0, 5, 1, 3, n), PLACE);
        }
    }

    /** "PLACE: .. i .. is below 0", though no items come. */
    static void iBelow0() {
        Jam j = ready();
        for (int i : new int[] {-1, -5, LOW}) {
            due(j.shift(0, i, 1, 0, 1), PLACE);
            due(j.shift(0, i, 1, 0, 0), PLACE);
        }
    }

    /** "PLACE: .. j is below 0", though no items come. */
    static void jBelow0() {
        Jam j = ready();
        for (int place : new int[] {-1, -3, LOW}) {
            due(j.shift(0, 0, 1, place, 1), PLACE);
            due(j.shift(0, 0, 1, place, 0), PLACE);
        }
    }

    /** "or beyond either's end": of the one they come from. */
    static void beyondTheEndOfTheOne() {
        Jam j = ready();
        due(j.shift(0, 3, 1, 0, 3), PLACE);
        due(j.shift(0, 5, 1, 0, 1), PLACE);
        due(j.shift(0, 6, 1, 0, 0), PLACE);
        due(j.shift(0, HIGH, 1, 0, 1), PLACE);
        due(j.shift(0, HIGH, 1, 0, 0), PLACE);
        due(j.shift(0, 3, 1, 0, 2), 2);
    }

    /** "or beyond either's end": of the one they come to. */
    static void beyondTheEndOfTheOther() {
        Jam j = ready();
        due(j.shift(0, 0, 1, 1, 3), PLACE);
        due(j.shift(0, 0, 1, 3, 1), PLACE);
        due(j.shift(0, 0, 1, 4, 0), PLACE);
        due(j.shift(0, 0, 1, HIGH, 1), PLACE);
        due(j.shift(0, 0, 1, HIGH, 0), PLACE);
        due(j.shift(0, 0, 1, 0, 4), PLACE);
        due(j.shift(0, 0, 1, 1, 2), 2);
    }

    /** A place and n that wrap around together are beyond the end. */
    static void wrappedAround() {
        Jam j = ready();
        due(j.shift(0, HIGH, 1, 0, HIGH), PLACE);
        due(j.shift(0, 0, 1, HIGH, HIGH), PLACE);
        due(j.shift(0, 1, 1, 1, HIGH), PLACE);
        due(j.shift(0, 2, 0, 2, HIGH), PLACE);
        due(j.shift(0, HIGH, 0, HIGH, 2), PLACE);
    }

    /** "the first that a call's words name": NONE, NOTHING, CAST, PLACE. */
    static void inTheirOrder() {
        Jam j = ready();
        due(j.shift(3, -1, 6, 0, -1), NONE);
        due(j.shift(-1, 0, 3, 0, 1), NONE);
        due(j.shift(3, -1, 0, 9, -1), NOTHING);
        due(j.shift(0, -1, 3, 0, 99), NOTHING);
        due(j.shift(0, -1, 2, 0, 1), CAST);
        due(j.shift(2, 0, 0, 9, -1), CAST);
        due(j.shift(2, 0, 0, 0, HIGH), CAST);
    }

    /** "What is answered so changes nothing": no item comes though some would have room. */
    static void refusedChangesNothing() {
        Jam j = ready();
        j.shift(0, 0, 1, 0, 4);
        j.shift(0, 3, 1, 0, 3);
        j.shift(0, 0, 1, 2, 2);
        j.shift(0, 0, 2, 0, 2);
        j.shift(0, 0, 1, 0, -1);
        holds(j, 0, 1, 2, 3, 4, 5);
        holds(j, 1, 0, 0, 0);
        holds(j, 2, 0, 0, 0, 0, 0);
        changesNothing(k -> {
            k.shift(-1, 0, 0, 0, 1);
            k.shift(0, 0, 1, 0, 1);
            k.shift(0, 0, 0, 2, 2);
            k.shift(1, 1, 1, 0, 2);
            k.shift(0, 0, 5, 0, 1);
        });
    }
}
