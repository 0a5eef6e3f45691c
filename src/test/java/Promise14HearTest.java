/** Promise 14: hear. */
public final class Promise14HearTest extends Sentences {
    public static void main(String[] args) {
        run(Promise14HearTest.class);
    }

    /** "What is HEARD comes: how many there are". */
    static void howManyThereAre() {
        Jam j = Jam.withPots(6, 9);
        due(j.hear(0, 0, 1), 1);
        due(j.hear(5, 7, 0), 2);
        due(j.hear(5, 7, -1), 3);
        due(j.count(2), 3);
    }

    /** "(pot -1: none then, 0)", whatever the others are. */
    static void pot1BelowIsNoneThen() {
        Jam j = Jam.withPot(POT, 0, 9);
        due(j.hear(-1, 0, 0), 0);
        j.hear(0, 0, 1);
        j.hear(0, 0, 0);
        due(j.told(3), 0);
        due(j.hear(-1, 99, 99), 0);
        due(j.count(2), 0);
        due(j.told(3), 256);
        due(j.hear(0, 0, 1), 1);
        due(j.hear(-1, LOW, HIGH), 0);
        due(new Jam().hear(-1, 0, 0), 0);
    }

    /** It is none then though it was full. */
    static void fullAndNoneThen() {
        Jam j = Jam.withPot(POT, 0, 9);
        for (int i = 0; i < 7; i++) {
            j.hear(0, 0, 1);
        }
        due(j.hear(-1, 0, 0), 0);
        due(j.hear(0, 3, 1), 1);
        due(j.told(5), 8);
    }

    /** "NONE: pot". */
    static void noSuchPotIsNone() {
        Jam j = new Jam();
        due(j.hear(0, 0, 1), NONE);
        j.pot(POT, 0, 9);
        due(j.hear(1, 0, 1), NONE);
        for (int pot : outsideBut1Below(5)) {
            due(j.hear(pot, 0, 1), NONE);
        }
        due(j.count(2), 0);
    }

    /** "NONE: .. fact". */
    static void noSuchFactIsNone() {
        Jam j = Jam.withPot(POT, 0, 9);
        for (int fact : outside(0, 7)) {
            due(j.hear(0, fact, 1), NONE);
        }
        due(j.hear(0, 0, 1), 1);
        due(j.hear(0, 7, 1), 2);
    }

    /** "BAD: says (-1 .. 1)": -5, which stands for nothing elsewhere, too. */
    static void outsideIsBad() {
        Jam j = Jam.withPot(POT, 0, 9);
        for (int says : outside(-1, 1)) {
            due(j.hear(0, 0, says), BAD);
        }
        due(j.hear(0, 0, -5), BAD);
        due(j.count(2), 0);
    }

    /** All that may be said: -1, 0, 1. */
    static void saysIs1BelowTo1() {
        Jam j = Jam.withPot(POT, 0, 3);
        due(j.hear(0, 0, -1), 1);
        due(j.told(3), 256);
        j.sugar(0, 4);
        j.hear(-1, 0, 0);
        due(j.hear(0, 0, 0), 1);
        due(j.told(6), 1);
        due(j.hear(0, 1, 1), 2);
        due(j.told(5), 2);
    }

    /** "6 rows at most"; "FULL: 6". */
    static void sixAreFull() {
        Jam j = Jam.withPot(POT, 0, 9);
        for (int i = 1; i <= 6; i++) {
            due(j.hear(0, i - 1, 1), i);
        }
        due(j.hear(0, 7, 1), FULL);
        due(j.count(2), 6);
        due(j.told(5), 63);
    }

    /** "the first that a call's words name": NONE, BAD, FULL. */
    static void inTheirOrder() {
        Jam j = Jam.withPot(POT, 0, 9);
        due(j.hear(1, 0, 2), NONE);
        due(j.hear(0, 8, -2), NONE);
        for (int i = 0; i < 6; i++) {
            j.hear(0, 0, 1);
        }
        due(j.hear(1, 0, 1), NONE);
        due(j.hear(-2, 0, 1), NONE);
        due(j.hear(0, -1, 1), NONE);
        due(j.hear(0, 0, 2), BAD);
        due(j.hear(0, 0, -2), BAD);
    }

    /** Told by hand: it need not be what the POT SAYS, and nothing is OPENED. */
    static void itIsToldByHand() {
        Jam j = Jam.withPot(POT, 0, 9);
        due(j.hear(0, 0, 1), 1);
        due(j.of(0, 20), 0);
        due(j.of(0, 4), 0);
        due(j.of(0, 2), 9);
        due(j.told(2), 0);
    }

    /** "What is answered so changes nothing". */
    static void refusedChangesNothing() {
        changesNothing(j -> {
            j.hear(3, 0, 1);
            j.hear(-2, 0, 1);
            j.hear(0, 8, 1);
            j.hear(0, -1, 1);
            j.hear(0, 0, 2);
            j.hear(0, 0, -2);
        });
        changesNothing(j -> {
            j.hear(1, 2, 1);
            j.hear(1, 2, 1);
            j.hear(1, 2, 1);
        }, j -> due(j.hear(0, 6, 1), FULL));
    }
}
