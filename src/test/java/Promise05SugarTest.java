/** Promise 5: sugar. */
public final class Promise05SugarTest extends Sentences {
    public static void main(String[] args) {
        run(Promise05SugarTest.class);
    }

    /** "SUGAR of a POT becomes n (0 .. 9): what it was." */
    static void whatItWas() {
        Jam j = Jam.withPots(2, 3);
        due(j.sugar(1, 6), 3);
        due(j.sugar(1, 7), 6);
        due(j.of(1, 2), 7);
        due(j.of(0, 2), 3);
    }

    /** The least and the greatest n. */
    static void nIs0To9() {
        Jam j = Jam.withPot(POT, 0, 5);
        due(j.sugar(0, 9), 5);
        due(j.of(0, 2), 9);
        due(j.sugar(0, 0), 9);
        due(j.of(0, 2), 0);
    }

    /** "NONE". */
    static void noSuchPotIsNone() {
        Jam j = new Jam();
        due(j.sugar(0, 1), NONE);
        j.pot(POT, 0, 5);
        due(j.sugar(1, 1), NONE);
        for (int pot : outside(0, 5)) {
            due(j.sugar(pot, 1), NONE);
        }
        due(j.sugar(0, 1), 5);
    }

    /** The sixth POT is one. */
    static void theLastPot() {
        Jam j = Jam.withPots(6, 4);
        due(j.sugar(5, 8), 4);
        due(j.sugar(6, 8), NONE);
    }

    /** "BAD". */
    static void outsideIsBad() {
        Jam j = Jam.withPot(POT, 0, 5);
        for (int n : outside(0, 9)) {
            due(j.sugar(0, n), BAD);
            due(j.of(0, 2), 5);
        }
    }

    /** "the first that a call's words name". */
    static void noneGoesAheadOfBad() {
        Jam j = Jam.withPot(POT, 0, 5);
        due(j.sugar(1, 10), NONE);
        due(j.sugar(-1, -1), NONE);
    }

    /** OPENED and AGE have no part in it. */
    static void onlySugarIsChanged() {
        Jam j = Jam.withPot(BERRY, 2, 5);
        j.spoon(0, 0);
        j.pass(2);
        due(j.sugar(0, 9), 4);
        due(j.of(0, 1), 2);
        due(j.of(0, 3), 2);
        due(j.of(0, 4), 1);
    }

    /** "What is answered so changes nothing". */
    static void refusedChangesNothing() {
        changesNothing(j -> {
            j.sugar(3, 1);
            j.sugar(-1, 1);
            j.sugar(0, 10);
            j.sugar(2, -1);
        });
    }
}
