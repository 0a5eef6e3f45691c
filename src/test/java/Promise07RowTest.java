/** Promise 7: row. */
public final class Promise07RowTest extends Sentences {
    public static void main(String[] args) {
        run(Promise07RowTest.class);
    }

    /** "The ROW of a TOLD one becomes n (0 .. 9) for FACTS modulo 4 being part: what it was." */
    static void whatItWas() {
        Jam j = Jam.withPot(TOLD, 0, 0);
        for (int part = 0; part < 4; part++) {
            due(j.row(0, part, part + 3), 0);
        }
        for (int part = 0; part < 4; part++) {
            due(j.row(0, part, 0), part + 3);
        }
    }

    /** FACTS modulo 4: each part is for two of them. */
    static void eachPartIsForTwoFacts() {
        for (int part = 0; part < 4; part++) {
            Jam j = Jam.withPot(TOLD, 0, 0);
            j.row(0, part, 9);
            for (int fact = 0; fact < 8; fact++) {
                due(j.of(0, 10 + fact), fact % 4 == part ? 5 : -4);
            }
        }
    }

    /** The least and the greatest n. */
    static void nIs0To9() {
        Jam j = Jam.withPot(TOLD, 0, 0);
        due(j.row(0, 1, 9), 0);
        due(j.row(0, 1, 0), 9);
        due(j.row(0, 1, 0), 0);
    }

    /** "NONE: pot". */
    static void noSuchPotIsNone() {
        Jam j = new Jam();
        due(j.row(0, 0, 0), NONE);
        j.pot(TOLD, 0, 0);
        due(j.row(1, 0, 0), NONE);
        for (int pot : outside(0, 5)) {
            due(j.row(pot, 0, 0), NONE);
        }
    }

    /** "NONE: .. part", of a TOLD one and of another. */
    static void noSuchPartIsNone() {
        Jam j = new Jam();
        j.pot(TOLD, 0, 0);
        j.pot(BERRY, 0, 0);
        for (int part : outside(0, 3)) {
            due(j.row(0, part, 0), NONE);
            due(j.row(1, part, 0), NONE);
        }
    }

    /** "BAD". */
    static void outsideIsBad() {
        Jam j = Jam.withPot(TOLD, 0, 0);
        j.row(0, 2, 6);
        for (int n : outside(0, 9)) {
            due(j.row(0, 2, n), BAD);
        }
        due(j.row(0, 2, 0), 6);
    }

    /** "STATE: another KIND": each that is not TOLD, BERRY above it, too. */
    static void anotherKindIsState() {
        for (int kind = 0; kind < 6; kind++) {
            Jam j = Jam.withPot(kind, 0, 0);
            due(j.row(0, 0, 5), STATE);
            due(j.row(0, 3, 0), STATE);
        }
    }

    /** "the first that a call's words name": NONE, BAD, STATE. */
    static void inTheirOrder() {
        Jam j = new Jam();
        j.pot(POT, 0, 0);
        j.pot(TOLD, 0, 0);
        due(j.row(2, 0, 10), NONE);
        due(j.row(0, 4, 10), NONE);
        due(j.row(1, -1, -1), NONE);
        due(j.row(0, 0, 10), BAD);
        due(j.row(0, 3, -1), BAD);
    }

    /** "What is answered so changes nothing". */
    static void refusedChangesNothing() {
        changesNothing(j -> {
            j.row(3, 0, 1);
            j.row(1, 4, 1);
            j.row(1, -1, 1);
            j.row(1, 0, 10);
            j.row(1, 2, -1);
            j.row(2, 0, 5);
            j.row(0, 1, 5);
        });
    }
}
