/** Promise 21: looked. */
public final class Promise21LookedTest extends Sentences {
    public static void main(String[] args) {
        run(Promise21LookedTest.class);
    }

    /** "(-5: none)": an empty BOOK. */
    static void anEmptyBook() {
        due(new Jam().looked(), SILENT);
        due(Jam.withPots(6, 9).looked(), SILENT);
    }

    /** "(-5: none)": all rows are so. */
    static void allAreSo() {
        Jam j = Jam.withPots(6, 9);
        for (int p = 0; p < 6; p++) {
            j.sugar(p, p);
            j.book(p, p);
        }
        due(j.looked(), SILENT);
    }

    /** "the number of the first of these rows by which it is otherwise now", the first and the last of 8. */
    static void theFirstThatIsOtherwise() {
        for (int row = 0; row < 8; row++) {
            Jam j = Jam.withPots(2, 3);
            for (int i = 0; i < 8; i++) {
                j.book(i == row ? 1 : 0, 3);
            }
            j.sugar(1, 4);
            due(j.looked(), row);
        }
    }

    /** Of several rows that are otherwise the first. */
    static void ofSeveralTheFirst() {
        Jam j = Jam.withPot(POT, 0, 3);
        j.book(0, 3);
        j.book(0, 4);
        j.book(0, 5);
        due(j.looked(), 1);
        j.sugar(0, 4);
        due(j.looked(), 0);
    }

    /** "now": by all that changes SUGAR. */
    static void itIsAsItIsNow() {
        Jam j = Jam.withPot(POT, 0, 3);
        j.book(0, 3);
        j.spoon(0, 0);
        due(j.looked(), 0);
        j.pass(5);
        due(j.looked(), SILENT);
        j.sugar(0, 0);
        due(j.looked(), 0);
    }

    /** More and less are both otherwise. */
    static void moreAndLess() {
        Jam j = Jam.withPot(POT, 0, 5);
        j.book(0, 5);
        j.sugar(0, 4);
        due(j.looked(), 0);
        j.sugar(0, 6);
        due(j.looked(), 0);
    }

    /** "what is asked changes nothing". */
    static void askedChangesNothing() {
        changesNothing(Jam::looked);
    }
}
