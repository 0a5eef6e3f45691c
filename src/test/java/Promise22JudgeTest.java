/** Promise 22: judge. */
public final class Promise22JudgeTest extends Sentences {
    public static void main(String[] args) {
        run(Promise22JudgeTest.class);
    }

    /** TAPE 0 is a row of so many booleans; THE WORLD is told from a place on, as far as the row goes. */
    private static Jam telling(int world, int size, int from) {
        Jam j = new Jam();
        j.world(world);
        j.tape(0, BOOLEANS, size);
        for (int fact = 0; fact < 8; fact++) {
            j.item(0, from + fact, (world >> fact) & 1);
        }
        return j;
    }

    /** "NONE: tape". */
    static void noSuchTapeIsNone() {
        Jam j = new Jam();
        for (int tape : outside(0, 5)) {
            due(j.judge(tape, 0), NONE);
            due(j.judge(tape, -1), NONE);
        }
    }

    /** "CAST: it is no row of booleans". */
    static void anotherSortIsCast() {
        Jam j = new Jam();
        for (int sort = BYTES; sort <= LONGS; sort++) {
            j.tape(5, sort, 8);
            due(j.judge(5, 0), CAST);
            j.tape(5, sort, 0);
            due(j.judge(5, 0), CAST);
        }
    }

    /** CAST goes ahead of the place, since the call's words name it. */
    static void castGoesAheadOfThePlace() {
        Jam j = new Jam();
        j.tape(0, INTS, 8);
        due(j.judge(0, -1), CAST);
        due(j.judge(0, 8), CAST);
        due(j.judge(0, LOW), CAST);
        due(j.judge(0, HIGH), CAST);
    }

    /** "100 and how many were looked at .. (or .. the TAPE holds nothing)". */
    static void aTapeThatHoldsNothing() {
        Jam j = new Jam();
        for (int tape = 0; tape < 6; tape++) {
            due(j.judge(tape, 0), 100);
            due(j.judge(tape, -1), 100);
            due(j.judge(tape, HIGH), 100);
        }
        j.tape(0, BOOLEANS, 8);
        due(j.judge(0, 0), SILENT);
        j.tape(0, -1, 0);
        due(j.judge(0, 0), 100);
    }

    /** "(or the place is below 0 ..)". */
    static void aPlaceBelow0() {
        Jam j = telling(0, 60, 0);
        for (int i : new int[] {-1, -2, -8, -256, LOW}) {
            due(j.judge(0, i), 100);
        }
    }

    /** "-5: none". */
    static void noneIsOtherwise() {
        for (int world : new int[] {0, 255, 0b10000001, 0b01011010}) {
            due(telling(world, 8, 0).judge(0, 0), SILENT);
            due(telling(world, 60, 0).judge(0, 0), SILENT);
            due(telling(world, 60, 52).judge(0, 52), SILENT);
        }
    }

    /** "the first that is otherwise": each FACT, told as so or as not so. */
    static void theFirstThatIsOtherwise() {
        for (int fact = 0; fact < 8; fact++) {
            for (int world : new int[] {0, 255, 0b10100110}) {
                Jam j = telling(world, 10, 1);
                j.world(world ^ 1 << fact);
                due(j.judge(0, 1), fact);
                j.world(world ^ (255 & -1 << fact));
                due(j.judge(0, 1), fact);
            }
        }
    }

    /** "100 and how many were looked at, if the row ends ahead of that": 0 to 7 of them. */
    static void theRowEndsAheadOfThat() {
        for (int size = 0; size < 8; size++) {
            due(telling(0b01011010, size, 0).judge(0, 0), 100 + size);
            due(telling(0b01011010, 20, 20 - size).judge(0, 20 - size), 100 + size);
        }
        due(telling(0, 8, 0).judge(0, 0), SILENT);
    }

    /** One that is otherwise ahead of the end goes ahead of the end. */
    static void otherwiseAheadOfTheEnd() {
        Jam j = telling(0, 3, 0);
        j.world(0b100);
        due(j.judge(0, 0), 2);
        j.world(0b1000);
        due(j.judge(0, 0), 103);
        due(j.judge(0, 1), 102);
    }

    /** Places at the end and beyond it: none is looked at. */
    static void placesBeyondTheEnd() {
        Jam j = telling(0, 60, 0);
        due(j.judge(0, 59), 101);
        for (int i : new int[] {60, 61, 100, 256, 65536, HIGH - 8, HIGH - 7, HIGH - 6, HIGH}) {
            due(j.judge(0, i), 100);
        }
        j.tape(0, BOOLEANS, 0);
        due(j.judge(0, 0), 100);
    }

    /** Behind 8 nothing is looked at. */
    static void eightAreLookedAt() {
        Jam j = telling(0, 9, 0);
        j.item(0, 8, 1);
        due(j.judge(0, 0), SILENT);
        due(j.judge(0, 1), 7);
    }

    /** What a longer row held ahead of this one has no part in it. */
    static void ofTheRowAsItIs() {
        Jam j = telling(0, 60, 0);
        j.tape(0, BOOLEANS, 3);
        due(j.judge(0, 0), 103);
    }

    /** "what is asked changes nothing". */
    static void askedChangesNothing() {
        changesNothing(j -> {
            for (int tape = -1; tape <= 6; tape++) {
                j.judge(tape, -1);
                j.judge(tape, 0);
                j.judge(tape, 60);
            }
        });
    }
}
