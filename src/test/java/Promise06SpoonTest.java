/** Promise 6: spoon. */
public final class Promise06SpoonTest extends Sentences {
    public static void main(String[] args) {
        run(Promise06SpoonTest.class);
    }

    /** "A POT is OPENED about a FACT: what it SAYS". */
    static void whatItSays() {
        Jam j = Jam.withPot(POT, 0, 9);
        j.world(0b10);
        due(j.spoon(0, 1), 1);
        due(j.spoon(0, 0), 0);
        j.cellarOf("haze 20 f<9");
        due(j.spoon(0, 1), 0);
        due(j.spoon(0, 0), 1);
    }

    /** It SAYS so as it is ahead of that: SUGAR is less, and OPENED more, only "then". */
    static void itSaysAheadOfBeingOpened() {
        Jam j = Jam.withPot(POT, 0, 4);
        due(j.spoon(0, 0), 0);
        due(j.spoon(0, 0), SILENT);
        Jam berry = Jam.withPot(BERRY, 0, 4);
        due(berry.spoon(0, 0), 0);
        berry.sugar(0, 5);
        due(berry.spoon(0, 0), SILENT);
    }

    /** "(-5: nothing)", and it is OPENED all the same. */
    static void nothingIsSaidButItIsOpened() {
        Jam j = Jam.withPot(POT, 0, 3);
        due(j.spoon(0, 7), SILENT);
        due(j.of(0, 4), 1);
        due(j.of(0, 2), 2);
    }

    /** "OPENED is 1 more then (9 at most)". */
    static void openedIs9AtMost() {
        Jam j = Jam.withPot(POT, 0, 9);
        for (int times = 1; times <= 12; times++) {
            j.spoon(0, 0);
            due(j.of(0, 4), Math.min(times, 9));
        }
    }

    /** "SUGAR 1 less (0 at least)". */
    static void sugarIs0AtLeast() {
        Jam j = Jam.withPot(POT, 0, 2);
        for (int times = 1; times <= 4; times++) {
            j.spoon(0, 0);
            due(j.of(0, 2), Math.max(2 - times, 0));
        }
    }

    /** SUGAR goes on to be less where OPENED can't be more. */
    static void sugarIsLessThoughOpenedIs9() {
        Jam j = Jam.withPot(POT, 0, 9);
        for (int times = 0; times < 9; times++) {
            j.spoon(0, 0);
        }
        j.sugar(0, 9);
        j.spoon(0, 0);
        due(j.of(0, 2), 8);
        due(j.of(0, 4), 9);
    }

    /** "-10001: NONE", by the POT. */
    static void noSuchPotIsNone() {
        Jam j = new Jam();
        due(j.spoon(0, 0), NO_SUCH);
        j.pot(POT, 0, 9);
        due(j.spoon(1, 0), NO_SUCH);
        for (int pot : outside(0, 5)) {
            due(j.spoon(pot, 0), NO_SUCH);
        }
    }

    /** "-10001: NONE", by the FACT; 0 and 7 are FACTS. */
    static void noSuchFactIsNone() {
        Jam j = Jam.withPot(POT, 0, 9);
        for (int fact : outside(0, 7)) {
            due(j.spoon(0, fact), NO_SUCH);
        }
        due(j.of(0, 4), 0);
        due(j.spoon(0, 0), 0);
        due(j.spoon(0, 7), 0);
    }

    /** Only that POT is OPENED; TERM, AGE and THE WORLD stay. */
    static void nothingElseChanges() {
        Jam j = Jam.withPots(2, 5);
        j.pass(1);
        j.world(3);
        due(j.spoon(1, 0), 1);
        due(j.of(0, 2), 5);
        due(j.of(0, 4), 0);
        due(j.of(1, 3), 1);
        due(j.told(0), 1);
        due(j.told(2), 3);
        due(j.count(2), 0);
    }

    /** "What is answered so changes nothing". */
    static void refusedChangesNothing() {
        changesNothing(j -> {
            j.spoon(3, 0);
            j.spoon(-1, 0);
            j.spoon(0, 8);
            j.spoon(1, -1);
        });
    }
}
