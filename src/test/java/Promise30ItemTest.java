/** Promise 30: item. */
public final class Promise30ItemTest extends Sentences {
    public static void main(String[] args) {
        run(Promise30ItemTest.class);
    }

    private static void becomes(int sort, long v, long want) {
        Jam j = new Jam();
        j.tape(2, sort, 3);
        due(j.item(2, 1, v), 1);
        due(j.read(2, 1), want);
        due(j.read(2, 0), 0);
        due(j.read(2, 2), 0);
    }

    /** "v (its lowest bits, as many as an item has)": 8 of bytes. */
    static void bytes() {
        becomes(BYTES, 127, 127);
        becomes(BYTES, 128, -128);
        becomes(BYTES, 255, -1);
        becomes(BYTES, 256, 0);
        becomes(BYTES, -128, -128);
        becomes(BYTES, -129, 127);
        becomes(BYTES, 0x123456789abcdef0L, (byte) 0xf0);
        becomes(BYTES, Long.MIN_VALUE, 0);
        becomes(BYTES, Long.MAX_VALUE, -1);
    }

    /** 16 of shorts. */
    static void shorts() {
        becomes(SHORTS, 32767, 32767);
        becomes(SHORTS, 32768, -32768);
        becomes(SHORTS, 65535, -1);
        becomes(SHORTS, 65536, 0);
        becomes(SHORTS, -32769, 32767);
        becomes(SHORTS, 0x123456789abcdef0L, (short) 0xdef0);
        becomes(SHORTS, Long.MIN_VALUE, 0);
        becomes(SHORTS, Long.MAX_VALUE, -1);
    }

    /** 32 of ints. */
    static void ints() {
        becomes(INTS, HIGH, HIGH);
        becomes(INTS, HIGH + 1L, LOW);
        becomes(INTS, 0xffffffffL, -1);
        becomes(INTS, 1L << 32, 0);
        becomes(INTS, LOW - 1L, HIGH);
        becomes(INTS, 0x123456789abcdef0L, 0x9abcdef0);
        becomes(INTS, Long.MIN_VALUE, 0);
        becomes(INTS, Long.MAX_VALUE, -1);
    }

    /** All of longs. */
    static void longs() {
        becomes(LONGS, 0x123456789abcdef0L, 0x123456789abcdef0L);
        becomes(LONGS, Long.MIN_VALUE, Long.MIN_VALUE);
        becomes(LONGS, Long.MAX_VALUE, Long.MAX_VALUE);
        becomes(LONGS, -1, -1);
    }

    /** "booleans: whether v is not 0", by all bits of v. */
    static void booleans() {
        becomes(BOOLEANS, 0, 0);
        becomes(BOOLEANS, 1, 1);
        becomes(BOOLEANS, 2, 1);
        becomes(BOOLEANS, -1, 1);
        becomes(BOOLEANS, 256, 1);
        becomes(BOOLEANS, 1L << 32, 1);
        becomes(BOOLEANS, Long.MIN_VALUE, 1);
        becomes(BOOLEANS, Long.MAX_VALUE, 1);
    }

    /** A boolean becomes 0 again. */
    static void aBooleanBecomes0Again() {
        Jam j = new Jam();
        j.tape(0, BOOLEANS, 1);
        j.item(0, 0, 7);
        due(j.item(0, 0, 0), 1);
        due(j.read(0, 0), 0);
    }

    /** "NONE". */
    static void noSuchTapeIsNone() {
        Jam j = new Jam();
        for (int tape : outside(0, 5)) {
            due(j.item(tape, 0, 1), NONE);
            due(j.item(tape, -1, 1), NONE);
        }
    }

    /** "NOTHING", of each TAPE. */
    static void nothingIsThere() {
        Jam j = new Jam();
        for (int tape = 0; tape < 6; tape++) {
            due(j.item(tape, 0, 1), NOTHING);
        }
        j.tape(3, INTS, 1);
        due(j.item(3, 0, 1), 1);
        j.tape(3, -1, 0);
        due(j.item(3, 0, 1), NOTHING);
    }

    /** "PLACE". */
    static void noSuchPlace() {
        Jam j = new Jam();
        j.tape(0, INTS, 60);
        j.tape(1, INTS, 1);
        j.tape(2, INTS, 0);
        for (int i : outside(0, 59)) {
            due(j.item(0, i, 1), PLACE);
        }
        due(j.item(0, 0, 1), 1);
        due(j.item(0, 59, 1), 1);
        due(j.item(1, 1, 1), PLACE);
        due(j.item(1, 59, 1), PLACE);
        due(j.item(2, 0, 1), PLACE);
        due(j.item(2, -1, 1), PLACE);
    }

    /** "the first that a call's words name": NONE, NOTHING, PLACE. */
    static void nothingGoesAheadOfPlace() {
        Jam j = new Jam();
        due(j.item(6, -1, 1), NONE);
        due(j.item(5, -1, 1), NOTHING);
        due(j.item(5, HIGH, 1), NOTHING);
    }

    /** "What is answered so changes nothing". */
    static void refusedChangesNothing() {
        changesNothing(j -> {
            j.item(-1, 0, 9);
            j.item(6, 0, 9);
            j.item(5, 0, 9);
            j.item(0, 3, 9);
            j.item(0, -1, 9);
            j.item(1, 2, 9);
            j.item(2, 0, 9);
        });
        Jam j = new Jam();
        j.tape(0, INTS, 1);
        due(j.item(0, 1, 9), PLACE);
        j.tape(0, INTS, 2);
        due(j.read(0, 1), 0);
    }
}
