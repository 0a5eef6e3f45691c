/** Promise 31: read. */
public final class Promise31ReadTest extends Sentences {
    public static void main(String[] args) {
        run(Promise31ReadTest.class);
    }

    /** "Item i of a TAPE." */
    static void itemI() {
        Jam j = new Jam();
        j.tape(5, LONGS, 60);
        j.item(5, 0, 11);
        j.item(5, 59, 22);
        due(j.read(5, 0), 11);
        due(j.read(5, 59), 22);
        due(j.read(5, 30), 0);
    }

    /** "NO: no such TAPE". */
    static void noSuchTapeIsNo() {
        Jam j = new Jam();
        for (int tape = 0; tape < 6; tape++) {
            j.tape(tape, INTS, 1);
        }
        for (int tape : outside(0, 5)) {
            due(j.read(tape, 0), NO);
        }
    }

    /** "NO: .. nothing there". */
    static void nothingThereIsNo() {
        Jam j = new Jam();
        for (int tape = 0; tape < 6; tape++) {
            due(j.read(tape, 0), NO);
        }
        j.tape(0, INTS, 1);
        due(j.read(0, 0), 0);
        j.tape(0, -1, 1);
        due(j.read(0, 0), NO);
    }

    /** "NO: .. no such place". */
    static void noSuchPlaceIsNo() {
        Jam j = new Jam();
        j.tape(0, SHORTS, 60);
        for (int i : outside(0, 59)) {
            due(j.read(0, i), NO);
        }
        j.tape(0, SHORTS, 3);
        due(j.read(0, 2), 0);
        due(j.read(0, 3), NO);
        j.tape(0, SHORTS, 0);
        due(j.read(0, 0), NO);
    }

    /** An item of longs may be the same number as NO. */
    static void anItemMayBeNo() {
        Jam j = new Jam();
        j.tape(0, LONGS, 1);
        j.item(0, 0, Long.MIN_VALUE);
        due(j.read(0, 0), NO);
        j.item(0, 0, Long.MIN_VALUE + 1);
        due(j.read(0, 0), NO + 1);
    }

    /** "what is asked changes nothing". */
    static void askedChangesNothing() {
        changesNothing(j -> {
            for (int tape = -1; tape <= 6; tape++) {
                j.read(tape, -1);
                j.read(tape, 0);
                j.read(tape, 60);
            }
        });
    }
}
