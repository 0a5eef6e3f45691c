/** Promise 20: book. */
public final class Promise20BookTest extends Sentences {
    public static void main(String[] args) {
        run(Promise20BookTest.class);
    }

    /** "A row comes to the BOOK: how many there are". */
    static void howManyThereAre() {
        Jam j = Jam.withPots(6, 3);
        due(j.book(0, 3), 1);
        due(j.book(5, 3), 2);
        due(j.book(5, 3), 3);
        due(j.count(4), 3);
    }

    /** "(pot -1: it is empty then, 0)", whatever sugar is. */
    static void pot1BelowIsEmptyThen() {
        due(new Jam().book(-1, 0), 0);
        Jam j = Jam.withPot(POT, 0, 3);
        j.book(0, 4);
        due(j.looked(), 0);
        due(j.book(-1, 10), 0);
        due(j.count(4), 0);
        due(j.looked(), SILENT);
        due(j.book(0, 4), 1);
        due(j.book(-1, LOW), 0);
    }

    /** It is empty then though it was full. */
    static void fullAndEmptyThen() {
        Jam j = Jam.withPot(POT, 0, 3);
        for (int i = 0; i < 9; i++) {
            j.book(0, 4);
        }
        due(j.book(-1, 0), 0);
        due(j.book(0, 3), 1);
        due(j.looked(), SILENT);
    }

    /** "NONE". */
    static void noSuchPotIsNone() {
        due(new Jam().book(0, 0), NONE);
        Jam j = Jam.withPot(POT, 0, 3);
        due(j.book(1, 0), NONE);
        for (int pot : outsideBut1Below(5)) {
            due(j.book(pot, 0), NONE);
        }
        due(j.count(4), 0);
    }

    /** "BAD: sugar". */
    static void outsideIsBad() {
        Jam j = Jam.withPot(POT, 0, 3);
        for (int sugar : outside(0, 9)) {
            due(j.book(0, sugar), BAD);
        }
        due(j.count(4), 0);
    }

    /** "SUGAR (0 .. 9 ..)": the least and the greatest. */
    static void sugarIs0To9() {
        Jam j = Jam.withPot(POT, 0, 0);
        due(j.book(0, 0), 1);
        due(j.looked(), SILENT);
        due(j.book(0, 9), 2);
        due(j.looked(), 1);
    }

    /** "8 at most"; "FULL: 8". */
    static void eightAreFull() {
        Jam j = Jam.withPot(POT, 0, 3);
        for (int i = 1; i <= 8; i++) {
            due(j.book(0, 3), i);
        }
        due(j.book(0, 4), FULL);
        due(j.count(4), 8);
        due(j.looked(), SILENT);
    }

    /** "the first that a call's words name": NONE, BAD, FULL. */
    static void inTheirOrder() {
        Jam j = Jam.withPot(POT, 0, 3);
        due(j.book(1, 10), NONE);
        due(j.book(-2, -1), NONE);
        for (int i = 0; i < 8; i++) {
            j.book(0, 3);
        }
        due(j.book(1, 3), NONE);
        due(j.book(-2, 3), NONE);
        due(j.book(0, 10), BAD);
        due(j.book(0, -1), BAD);
    }

    /** "What is answered so changes nothing". */
    static void refusedChangesNothing() {
        changesNothing(j -> {
            j.book(3, 0);
            j.book(-2, 0);
            j.book(0, 10);
            j.book(0, -1);
        });
        changesNothing(j -> {
            for (int i = 0; i < 5; i++) {
                j.book(0, 5);
            }
        }, j -> due(j.book(2, 0), FULL));
    }
}
