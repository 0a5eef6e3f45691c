/** Promise 29: tape. */
public final class Promise29TapeTest extends Sentences {
    public static void main(String[] args) {
        run(Promise29TapeTest.class);
    }

    /** "A TAPE becomes a row of n (0 .. 60) of a sort, all 0 ..: 1." */
    static void allAre0() {
        for (int sort = BYTES; sort <= BOOLEANS; sort++) {
            Jam j = new Jam();
            due(j.tape(sort, sort, 60), 1);
            for (int i = 0; i < 60; i++) {
                due(j.read(sort, i), 0);
            }
            due(j.read(sort, 60), NO);
        }
    }

    /** All are 0 though it held another row. */
    static void allAre0Again() {
        Jam j = new Jam();
        j.tape(0, LONGS, 3);
        for (int i = 0; i < 3; i++) {
            j.item(0, i, -1);
        }
        due(j.tape(0, BYTES, 4), 1);
        for (int i = 0; i < 4; i++) {
            due(j.read(0, i), 0);
        }
        j.item(0, 3, 5);
        due(j.tape(0, BYTES, 2), 1);
        due(j.tape(0, BYTES, 4), 1);
        due(j.read(0, 3), 0);
    }

    /** n 0: a row without items, which is not nothing. */
    static void aRowOfNone() {
        Jam j = new Jam();
        due(j.tape(0, SHORTS, 0), 1);
        due(j.item(0, 0, 1), PLACE);
        due(j.read(0, 0), NO);
        due(j.shift(0, 0, 0, 0, 0), 0);
    }

    /** "or holds nothing (sort -1: n does not matter): 1". */
    static void holdsNothing() {
        Jam j = new Jam();
        for (int n : new int[] {0, 1, 60, 61, -1, LOW, HIGH}) {
            j.tape(0, INTS, 3);
            due(j.tape(0, -1, n), 1);
            due(j.item(0, 0, 1), NOTHING);
            due(j.read(0, 0), NO);
            due(j.shift(0, 0, 0, 0, 0), NOTHING);
        }
        due(j.tape(5, -1, 0), 1);
    }

    /** "NONE: tape", the first and the last being some. */
    static void noSuchTapeIsNone() {
        Jam j = new Jam();
        for (int tape : outside(0, 5)) {
            due(j.tape(tape, INTS, 1), NONE);
            due(j.tape(tape, -1, 1), NONE);
        }
        due(j.tape(0, INTS, 1), 1);
        due(j.tape(5, INTS, 1), 1);
    }

    /** "BAD: sort". */
    static void noSuchSortIsBad() {
        Jam j = new Jam();
        for (int sort : outsideBut1Below(4)) {
            due(j.tape(0, sort, 1), BAD);
        }
        due(j.item(0, 0, 1), NOTHING);
    }

    /** "BAD: .. n above 60". */
    static void nAbove60IsBad() {
        Jam j = new Jam();
        for (int n : new int[] {61, 62, 100, 256, 65536, HIGH}) {
            due(j.tape(0, INTS, n), BAD);
        }
        due(j.item(0, 0, 1), NOTHING);
        due(j.tape(0, INTS, 60), 1);
    }

    /** "SIZE (-14): a size below 0". */
    static void nBelow0IsSize() {
        Jam j = new Jam();
        for (int sort = BYTES; sort <= BOOLEANS; sort++) {
            for (int n : new int[] {-1, -2, -60, -256, LOW}) {
                due(j.tape(0, sort, n), SIZE);
            }
        }
        due(j.item(0, 0, 1), NOTHING);
    }

    /** "the first that a call's words name": NONE, BAD, SIZE. */
    static void inTheirOrder() {
        Jam j = new Jam();
        due(j.tape(6, 5, -1), NONE);
        due(j.tape(-1, 5, 61), NONE);
        due(j.tape(-1, INTS, -1), NONE);
        due(j.tape(0, 5, -1), BAD);
        due(j.tape(0, -2, LOW), BAD);
        due(j.tape(0, 5, 61), BAD);
    }

    /** Each TAPE is of its own. */
    static void eachOfItsOwn() {
        Jam j = new Jam();
        for (int t = 0; t < 6; t++) {
            j.tape(t, INTS, t + 1);
            j.item(t, t, 10 + t);
        }
        for (int t = 0; t < 6; t++) {
            due(j.read(t, t), 10 + t);
            due(j.read(t, t + 1), NO);
        }
    }

    /** "What is answered so changes nothing": the row that was there stays. */
    static void refusedChangesNothing() {
        changesNothing(j -> {
            j.tape(6, INTS, 1);
            j.tape(-1, -1, 0);
            j.tape(0, 5, 1);
            j.tape(0, -2, 1);
            j.tape(0, INTS, 61);
            j.tape(1, INTS, -1);
            j.tape(1, LONGS, LOW);
        });
    }
}
