/** Promise 12: on. */
public final class Promise12OnTest extends Sentences {
    public static void main(String[] args) {
        run(Promise12OnTest.class);
    }

    /** "what 0 how much SUGAR all have": 0 without POTS. */
    static void sugarOfAll() {
        due(new Jam().on(0, 0), 0);
        due(new Jam().on(60, 0), 0);
        Jam j = Jam.withPots(6, 3);
        due(j.on(4, 0), 18);
        due(j.on(5, 0), 24);
        due(j.on(60, 0), 54);
    }

    /** "10 and p SUGAR of POT p", the first and the last. */
    static void sugarOfOne() {
        Jam j = Jam.withPots(6, 3);
        j.sugar(5, 7);
        due(j.on(0, 10), 3);
        due(j.on(5, 10), 4);
        due(j.on(9, 15), 8);
        due(j.on(60, 15), 9);
    }

    /** "20 and p what it SAYS about FACT 0 (-5)". */
    static void whatItSays() {
        Jam j = Jam.withPots(6, 3);
        j.sugar(5, 2);
        j.world(1);
        due(j.on(4, 20), SILENT);
        due(j.on(5, 20), 1);
        due(j.on(9, 25), SILENT);
        due(j.on(10, 25), 1);
        j.world(254);
        due(j.on(5, 20), 0);
        j.cellarOf("haze 9 a=2;keep 0");
        due(j.on(1, 20), SILENT);
        due(j.on(2, 20), 1);
        due(j.on(3, 20), SILENT);
    }

    /** It is about FACT 0 alone. */
    static void itIsAboutFact0() {
        Jam j = Jam.withPots(2, 0);
        j.cellarOf("sweet 9 f>0;haze 9 f=0&p=1");
        due(j.on(0, 20), SILENT);
        due(j.on(0, 21), 1);
    }

    /** "ON n TERMS (0 .. 60)": the least and the greatest. */
    static void nIs0To60() {
        Jam j = Jam.withPot(POT, 0, 3);
        j.cellarOf("keep 60");
        due(j.on(0, 10), 3);
        due(j.on(59, 10), 3);
        due(j.on(60, 10), 4);
        due(j.on(60, 20), 0);
        due(j.on(60, 0), 4);
    }

    /** "BAD: n". */
    static void outsideIsBad() {
        Jam j = Jam.withPot(POT, 0, 3);
        for (int n : outside(0, 60)) {
            due(j.on(n, 0), BAD);
            due(j.on(n, 10), BAD);
            due(j.on(n, 20), BAD);
        }
    }

    /** "-10001: NONE", by what. */
    static void noSuchWhatIsNone() {
        Jam j = Jam.withPots(6, 3);
        for (int what : new int[] {-1, -10, -20, 1, 5, 9, 16, 17, 18, 19, 26, 27, 29, 30, 35, 110, 266, LOW, HIGH}) {
            due(j.on(0, what), NO_SUCH);
        }
    }

    /** "-10001: NONE", by the POT. */
    static void noSuchPotIsNone() {
        due(new Jam().on(0, 10), NO_SUCH);
        due(new Jam().on(0, 20), NO_SUCH);
        Jam j = Jam.withPots(2, 3);
        for (int p = 0; p < 6; p++) {
            due(j.on(0, 10 + p), p < 2 ? 3 : NO_SUCH);
            due(j.on(0, 20 + p), p < 2 ? SILENT : NO_SUCH);
        }
    }

    /** "the first that a call's words name". */
    static void noneGoesAheadOfBad() {
        Jam j = Jam.withPot(POT, 0, 3);
        due(j.on(61, 1), NO_SUCH);
        due(j.on(-1, 11), NO_SUCH);
        due(j.on(LOW, 21), NO_SUCH);
        due(j.on(61, 10), BAD);
    }

    /** "SUGAR 1 more (9 at most)", and none by KEEP 0. */
    static void sugarIs9AtMost() {
        Jam j = Jam.withPots(2, 8);
        j.cellarOf("keep 1");
        due(j.on(1, 0), 18);
        due(j.on(2, 0), 18);
        due(j.on(60, 11), 9);
        j.cellarOf("keep 0");
        due(j.on(60, 0), 16);
    }

    /** "goes on from how all is": AGE and SUGAR as they are now. */
    static void itGoesOnFromHowAllIs() {
        Jam j = Jam.withPot(POT, 0, 3);
        j.pass(3);
        j.pot(POT, 0, 3);
        due(j.on(1, 0), 6);
        due(j.on(2, 0), 7);
        due(j.on(5, 0), 8);
        due(j.on(2, 10), 4);
        due(j.on(2, 11), 3);
    }

    /** "(TERMS, AGE beyond 9999, too)". */
    static void itGoesOnBeyond9999() {
        Jam j = Jam.withPot(POT, 0, 0);
        j.passToTheLastTerm();
        j.sugar(0, 0);
        due(j.on(1, 10), 1);
        due(j.on(5, 10), 1);
        due(j.on(6, 10), 2);
        j.cellarOf("keep 11");
        due(j.on(10, 10), 0);
        due(j.on(11, 10), 1);
        due(j.on(60, 0), 5);
        j.cellarOf("keep 0;haze 1 a=4");
        due(j.on(4, 20), SILENT);
        due(j.on(5, 20), 1);
        due(j.told(0), 9999);
        due(j.of(0, 3), 9999);
    }

    /** QUINCE SAYS something from AGE v on. */
    static void ageOfAQuince() {
        Jam j = Jam.withPot(QUINCE, 9, 0);
        j.world(1);
        due(j.on(8, 20), SILENT);
        due(j.on(9, 20), 1);
    }

    /** "what is asked changes nothing". */
    static void askedChangesNothing() {
        changesNothing(j -> {
            for (int what = 0; what <= 30; what++) {
                j.on(60, what);
                j.on(what, what);
                j.on(61, what);
            }
        });
    }
}
