/** Promise 11: pass. */
public final class Promise11PassTest extends Sentences {
    public static void main(String[] args) {
        run(Promise11PassTest.class);
    }

    /** "n TERMS (0 .. 60) go: TERM." */
    static void term() {
        Jam j = new Jam();
        due(j.pass(4), 4);
        due(j.pass(1), 5);
        due(j.told(0), 5);
    }

    /** The least and the greatest n. */
    static void nIs0To60() {
        Jam j = Jam.withPot(POT, 0, 0);
        due(j.pass(0), 0);
        due(j.of(0, 3), 0);
        due(j.pass(60), 60);
        due(j.of(0, 3), 60);
        due(j.pass(0), 60);
        due(j.of(0, 3), 60);
    }

    /** No TERM goes by 0, so SUGAR stays where AGE is a multiple of KEEP. */
    static void zeroTermsBringNoSugar() {
        Jam j = Jam.withPot(POT, 0, 0);
        j.pass(0);
        due(j.of(0, 2), 0);
        j.pass(5);
        j.pass(0);
        due(j.of(0, 2), 1);
    }

    /** "BAD". */
    static void outsideIsBad() {
        Jam j = Jam.withPot(POT, 0, 0);
        for (int n : outside(0, 60)) {
            due(j.pass(n), BAD);
        }
        due(j.told(0), 0);
        due(j.of(0, 3), 0);
    }

    /** "STATE: it would be above 9999." */
    static void above9999IsState() {
        Jam j = Jam.withPot(POT, 0, 0);
        for (int i = 0; i < 166; i++) {
            j.pass(60);
        }
        due(j.told(0), 9960);
        due(j.pass(40), STATE);
        due(j.pass(60), STATE);
        due(j.told(0), 9960);
        due(j.of(0, 3), 9960);
        due(j.pass(39), 9999);
        due(j.pass(1), STATE);
        due(j.pass(0), 9999);
        due(j.of(0, 3), 9999);
    }

    /** "the first that a call's words name". */
    static void badGoesAheadOfState() {
        Jam j = new Jam();
        j.passToTheLastTerm();
        due(j.pass(61), BAD);
        due(j.pass(-1), BAD);
        due(j.pass(HIGH), BAD);
        due(j.pass(60), STATE);
    }

    /** "AGE of each POT is 1 more (9999 at most)"; one that comes at the end is of AGE 0 and stays so. */
    static void ageUpTo9999() {
        Jam j = Jam.withPot(POT, 0, 0);
        j.passToTheLastTerm();
        due(j.of(0, 3), 9999);
        j.pot(POT, 0, 0);
        due(j.pass(1), STATE);
        due(j.of(0, 3), 9999);
        due(j.of(1, 3), 0);
    }

    /** "if KEEP is above 0 and AGE a multiple of it then, SUGAR 1 more". */
    static void sugarByMultiplesOfKeep() {
        Jam j = Jam.withPot(POT, 0, 0);
        for (int age = 1; age <= 16; age++) {
            j.pass(1);
            due(j.of(0, 2), age / 5);
        }
        due(j.pass(4), 20);
        due(j.of(0, 2), 4);
    }

    /** "if KEEP is above 0". */
    static void noSugarByKeep0() {
        Jam j = Jam.withPot(POT, 0, 3);
        j.cellarOf("keep 0");
        due(j.pass(60), 60);
        due(j.of(0, 2), 3);
        j.cellarOf("keep 00");
        due(j.pass(60), 120);
        due(j.of(0, 2), 3);
    }

    /** KEEP 1 is the least that brings some, and 99 the greatest. */
    static void keepFrom1To99() {
        Jam j = Jam.withPots(1, 0);
        j.cellarOf("keep 1");
        j.pass(3);
        due(j.of(0, 2), 3);
        j.cellarOf("keep 99");
        j.pass(60);
        j.pass(35);
        due(j.of(0, 2), 3);
        j.pass(1);
        due(j.of(0, 3), 99);
        due(j.of(0, 2), 4);
    }

    /** "SUGAR 1 more (9 at most)". */
    static void sugarIs9AtMost() {
        Jam j = Jam.withPots(2, 8);
        j.sugar(1, 9);
        j.cellarOf("keep 1");
        j.pass(1);
        due(j.of(0, 2), 9);
        due(j.of(1, 2), 9);
        j.pass(60);
        due(j.of(0, 2), 9);
        due(j.of(1, 2), 9);
    }

    /** It is by the AGE of each, not by TERM. */
    static void eachByItsOwnAge() {
        Jam j = Jam.withPot(POT, 0, 0);
        j.pass(3);
        j.pot(POT, 0, 0);
        j.pass(2);
        due(j.of(0, 2), 1);
        due(j.of(1, 2), 0);
        j.pass(3);
        due(j.of(0, 2), 1);
        due(j.of(1, 2), 1);
        due(j.of(0, 3), 8);
        due(j.of(1, 3), 5);
    }

    /** TERMS go with no POTS, too. */
    static void withoutPots() {
        Jam j = new Jam();
        due(j.pass(60), 60);
        due(j.count(0), 0);
    }

    /** OPENED, THE WORLD and what was told by hand stay. */
    static void nothingElseChanges() {
        Jam j = Jam.withPot(BERRY, 0, 5);
        j.spoon(0, 0);
        j.world(5);
        j.hear(0, 0, 1);
        j.plan(0, 0);
        j.book(0, 4);
        j.pass(3);
        due(j.of(0, 4), 1);
        due(j.told(2), 5);
        due(j.count(2), 1);
        due(j.count(3), 1);
        due(j.count(4), 1);
    }

    /** "What is answered so changes nothing". */
    static void refusedChangesNothing() {
        changesNothing(j -> {
            for (int n : outside(0, 60)) {
                j.pass(n);
            }
        });
        Jam j = Jam.withPot(POT, 0, 0);
        j.passToTheLastTerm();
        j.sugar(0, 2);
        j.cellarOf("keep 1");
        due(j.pass(1), STATE);
        due(j.of(0, 2), 2);
        due(j.told(0), 9999);
    }
}
