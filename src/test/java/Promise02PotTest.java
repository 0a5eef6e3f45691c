/** Promise 2: pot. */
public final class Promise02PotTest extends Sentences {
    public static void main(String[] args) {
        run(Promise02PotTest.class);
    }

    /** "A POT: its number"; "POTS 0 .. 5, as they come". */
    static void numbersAsTheyCome() {
        Jam j = new Jam();
        for (int i = 0; i < 6; i++) {
            due(j.pot(6 - i, i, 9 - i), i);
            due(j.count(0), i + 1);
        }
        for (int i = 0; i < 6; i++) {
            due(j.of(i, 0), 6 - i);
            due(j.of(i, 1), i);
            due(j.of(i, 2), 9 - i);
        }
    }

    /** KINDS 0 .. 6. */
    static void eachKindIsTaken() {
        for (int kind = 0; kind <= 6; kind++) {
            Jam j = new Jam();
            due(j.pot(kind, 0, 0), 0);
            due(j.of(0, 0), kind);
        }
    }

    /** "NONE: kind". */
    static void noSuchKindIsNone() {
        Jam j = new Jam();
        for (int kind : outside(0, 6)) {
            due(j.pot(kind, 0, 0), NONE);
        }
        due(j.count(0), 0);
    }

    /** "a number v (0 .. 9)". */
    static void vIs0To9() {
        Jam low = new Jam();
        due(low.pot(POT, 0, 5), 0);
        due(low.of(0, 1), 0);
        Jam high = new Jam();
        due(high.pot(POT, 9, 5), 0);
        due(high.of(0, 1), 9);
    }

    /** "BAD: v". */
    static void vOutsideIsBad() {
        Jam j = new Jam();
        for (int v : outside(0, 9)) {
            due(j.pot(POT, v, 0), BAD);
        }
        due(j.count(0), 0);
    }

    /** "SUGAR (0 .. 9)". */
    static void sugarIs0To9() {
        Jam low = new Jam();
        due(low.pot(POT, 5, 0), 0);
        due(low.of(0, 2), 0);
        Jam high = new Jam();
        due(high.pot(POT, 5, 9), 0);
        due(high.of(0, 2), 9);
    }

    /** "BAD: .. sugar". */
    static void sugarOutsideIsBad() {
        Jam j = new Jam();
        for (int sugar : outside(0, 9)) {
            due(j.pot(POT, 0, sugar), BAD);
        }
        due(j.count(0), 0);
    }

    /** "FULL: 6". */
    static void sixAreFull() {
        Jam j = Jam.withPots(5, 3);
        due(j.pot(POT, 1, 1), 5);
        due(j.pot(POT, 1, 1), FULL);
        due(j.pot(TOLD, 9, 9), FULL);
        due(j.count(0), 6);
        due(j.of(5, 2), 1);
        due(j.of(6, 0), NO_SUCH);
    }

    /** "the first that a call's words name": NONE, then BAD. */
    static void noneGoesAheadOfBad() {
        Jam j = new Jam();
        due(j.pot(7, 10, 0), NONE);
        due(j.pot(-1, 0, 10), NONE);
    }

    /** "the first that a call's words name": NONE and BAD, then FULL. */
    static void noneAndBadGoAheadOfFull() {
        Jam j = Jam.withPots(6, 0);
        due(j.pot(7, 0, 0), NONE);
        due(j.pot(-1, 10, 10), NONE);
        due(j.pot(POT, 10, 0), BAD);
        due(j.pot(POT, 0, -1), BAD);
    }

    /** "an AGE (0 .. 9999; 0 at first)", whatever TERM is. */
    static void ageIs0AtFirst() {
        Jam j = new Jam();
        j.pot(POT, 0, 0);
        j.pass(7);
        j.pot(POT, 0, 0);
        due(j.of(1, 3), 0);
        due(j.of(0, 3), 7);
    }

    /** "OPENED (0 .. 9; 0 at first)". */
    static void openedIs0AtFirst() {
        Jam j = new Jam();
        j.pot(BERRY, 0, 0);
        j.spoon(0, 0);
        j.pot(BERRY, 0, 0);
        due(j.of(1, 4), 0);
        due(j.of(0, 4), 1);
    }

    /** "ROW (four numbers 0 .. 9; 0 at first)". */
    static void rowIs0AtFirst() {
        Jam j = Jam.withPot(TOLD, 0, 9);
        for (int fact = 0; fact < 8; fact++) {
            due(j.of(0, 10 + fact), 9 - 4);
        }
        for (int part = 0; part < 4; part++) {
            due(j.row(0, part, 9), 0);
        }
    }

    /** A POT that comes where one was that is undone has nothing of that one. */
    static void aPotBehindUndoIsNew() {
        Jam j = new Jam();
        j.image();
        j.pot(TOLD, 1, 1);
        for (int part = 0; part < 4; part++) {
            j.row(0, part, 9);
        }
        j.spoon(0, 0);
        j.pass(2);
        j.undo();
        due(j.pot(TOLD, 2, 3), 0);
        due(j.of(0, 1), 2);
        due(j.of(0, 2), 3);
        due(j.of(0, 3), 0);
        due(j.of(0, 4), 0);
        for (int part = 0; part < 4; part++) {
            due(j.row(0, part, 0), 0);
        }
    }

    /** "What is answered so changes nothing". */
    static void refusedChangesNothing() {
        changesNothing(j -> {
            j.pot(7, 0, 0);
            j.pot(-1, 0, 0);
            j.pot(POT, 10, 0);
            j.pot(TOLD, 0, -1);
        });
        changesNothing(j -> {
            j.pot(POT, 0, 0);
            j.pot(POT, 0, 0);
            j.pot(POT, 0, 0);
        }, j -> due(j.pot(TOLD, 9, 9), FULL));
    }
}
