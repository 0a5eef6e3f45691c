/** Promise 19: ends. */
public final class Promise19EndsTest extends Sentences {
    public static void main(String[] args) {
        run(Promise19EndsTest.class);
    }

    /** "NONE". */
    static void noSuchWhatIsNone() {
        Jam j = Jam.withPot(POT, 0, 9);
        for (int what : outside(0, 1)) {
            due(j.ends(what), NONE);
        }
    }

    /** "what 0 SUGAR, 1 OPENED": without POTS, whatever is planned. */
    static void withoutPots() {
        Jam j = new Jam();
        due(j.ends(0), 0);
        due(j.ends(1), 0);
        j.plan(0, 0);
        j.plan(3, 5);
        due(j.ends(0), 0);
        due(j.ends(1), 0);
    }

    /** Without rows: SUGAR and OPENED as they are. */
    static void withoutRows() {
        Jam j = Jam.withPots(6, 9);
        due(j.ends(0), 54);
        due(j.ends(1), 0);
        j.spoon(5, 0);
        j.spoon(0, 0);
        due(j.ends(0), 52);
        due(j.ends(1), 2);
    }

    /** "0 a TERM": AGE and KEEP as they are. */
    static void aTermGoes() {
        Jam j = Jam.withPot(POT, 0, 1);
        j.pass(3);
        j.pot(POT, 0, 1);
        j.plan(0, 99);
        due(j.ends(0), 2);
        j.plan(0, 99);
        due(j.ends(0), 3);
        j.plan(0, 99);
        j.plan(0, 99);
        due(j.ends(0), 3);
        j.plan(0, 99);
        due(j.ends(0), 4);
        j.cellarOf("keep 0");
        due(j.ends(0), 2);
        j.cellarOf("keep 1");
        due(j.ends(0), 12);
        due(j.ends(1), 0);
    }

    /** "1 a POT is OPENED about a FACT, told as 10 times the one and the other". */
    static void aPotIsOpened() {
        Jam j = Jam.withPots(6, 3);
        j.sugar(0, 0);
        j.plan(1, 57);
        due(j.ends(0), 14);
        due(j.ends(1), 1);
        j.plan(1, 7);
        due(j.ends(0), 14);
        due(j.ends(1), 2);
    }

    /** "2 SUGAR of a POT is 0". */
    static void sugarIs0() {
        Jam j = Jam.withPots(6, 3);
        j.plan(2, 5);
        due(j.ends(0), 15);
        j.plan(2, 5);
        due(j.ends(0), 15);
        j.plan(2, 0);
        due(j.ends(0), 12);
        due(j.ends(1), 0);
    }

    /** "3 FACT n is so in THE WORLD, if it was not": SUGAR and OPENED stay. */
    static void theWorldIsTurned() {
        Jam j = Jam.withPots(6, 3);
        for (int fact = 0; fact < 8; fact++) {
            j.plan(3, fact);
            due(j.ends(0), 18);
            due(j.ends(1), 0);
        }
        due(j.told(2), 0);
    }

    /** Row by row, in their order. */
    static void inTheirOrder() {
        Jam j = Jam.withPot(POT, 0, 5);
        j.cellarOf("keep 1");
        j.plan(0, 0);
        j.plan(2, 0);
        due(j.ends(0), 0);
        j.plan(-1, 0);
        j.plan(2, 0);
        j.plan(0, 0);
        due(j.ends(0), 1);
        j.plan(1, 0);
        j.plan(1, 0);
        j.plan(0, 0);
        due(j.ends(0), 1);
        due(j.ends(1), 2);
    }

    /** "OPENED is 1 more then (9 at most)". */
    static void openedIs9AtMost() {
        Jam j = Jam.withPots(2, 9);
        for (int i = 1; i <= 10; i++) {
            j.plan(1, 10);
            due(j.ends(1), Math.min(i, 9));
        }
        j.spoon(0, 0);
        due(j.ends(1), 10);
    }

    /** "SUGAR 1 less (0 at least)". */
    static void sugarIs0AtLeast() {
        Jam j = Jam.withPots(2, 2);
        for (int i = 1; i <= 4; i++) {
            j.plan(1, 0);
            due(j.ends(0), 2 + Math.max(2 - i, 0));
        }
    }

    /** "SUGAR 1 more (9 at most)". */
    static void sugarIs9AtMost() {
        Jam j = Jam.withPots(2, 8);
        j.cellarOf("keep 1");
        for (int i = 1; i <= 3; i++) {
            j.plan(0, 0);
            due(j.ends(0), 18);
        }
    }

    /** All ten rows go. */
    static void tenRowsGo() {
        Jam j = Jam.withPot(POT, 0, 0);
        j.cellarOf("keep 10");
        for (int i = 1; i <= 10; i++) {
            j.plan(0, 0);
            due(j.ends(0), i / 10);
        }
    }

    /** "goes on from how all is (TERMS, AGE beyond 9999, too)". */
    static void itGoesOnBeyond9999() {
        Jam j = Jam.withPot(POT, 0, 0);
        j.passToTheLastTerm();
        j.sugar(0, 0);
        for (int i = 1; i <= 6; i++) {
            j.plan(0, 0);
            due(j.ends(0), i < 6 ? 1 : 2);
        }
        due(j.told(0), 9999);
    }

    /** "what is asked changes nothing". */
    static void askedChangesNothing() {
        changesNothing(j -> {
            for (int what = -1; what <= 2; what++) {
                j.ends(what);
            }
        });
        Jam j = Jam.withPot(POT, 0, 9);
        j.plan(3, 0);
        j.plan(1, 0);
        j.plan(2, 0);
        j.plan(0, 0);
        due(j.ends(1), 1);
        due(j.ends(1), 1);
        due(j.told(0), 0);
        due(j.told(2), 0);
        due(j.of(0, 2), 9);
        due(j.of(0, 4), 0);
    }
}
