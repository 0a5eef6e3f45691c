/** Promise 10: told. */
public final class Promise10ToldTest extends Sentences {
    public static void main(String[] args) {
        run(Promise10ToldTest.class);
    }

    /** "0 TERM, 1 KEEP, 2 THE WORLD". */
    static void termKeepAndWorld() {
        Jam j = new Jam();
        j.pass(4);
        j.world(9);
        due(j.told(0), 4);
        due(j.told(1), 5);
        due(j.told(2), 9);
        j.cellarOf("keep 0");
        due(j.told(1), 0);
    }

    /** "-10001: NONE". */
    static void noSuchWhatIsNone() {
        Jam j = Jam.withPot(POT, 0, 9);
        for (int what : new int[] {-1, -5, -10, 8, 9, 18, 19, 20, 27, 266, 65536 + 10, LOW, HIGH}) {
            due(j.told(what), NO_SUCH);
        }
    }

    /** Nothing HEARD: all 256 WORLDS are FITS, with POTS or without. */
    static void allFitByNothingHeard() {
        for (Jam j : new Jam[] {new Jam(), Jam.withPots(6, 9)}) {
            due(j.told(3), 256);
            due(j.told(4), 0);
            due(j.told(5), 0);
            due(j.told(6), 0);
        }
    }

    /** FITS by 1 and by 0, of the first and of the last FACT. */
    static void fitsByWhatWasSaid() {
        Jam j = Jam.withPot(POT, 0, 9);
        j.hear(0, 7, 1);
        due(j.told(3), 128);
        due(j.told(4), 128);
        due(j.told(5), 128);
        due(j.told(6), 0);
        j.hear(0, 0, 0);
        due(j.told(3), 64);
        due(j.told(4), 128);
        due(j.told(5), 128);
        due(j.told(6), 1);
        j.hear(0, 1, 1);
        due(j.told(3), 32);
        due(j.told(4), 130);
        due(j.told(5), 130);
        due(j.told(6), 1);
    }

    /** FITS by one that SAYS it the other way. */
    static void fitsByTheOtherWay() {
        Jam j = Jam.withPot(WASP, 0, 5);
        j.hear(0, 1, 1);
        due(j.told(3), 128);
        due(j.told(4), 0);
        due(j.told(5), 0);
        due(j.told(6), 2);
        j.hear(0, 3, 0);
        due(j.told(4), 8);
        due(j.told(5), 8);
        due(j.told(6), 2);
    }

    /** Six rows of HEARD, the most there are. */
    static void fitsByTheMostHeard() {
        Jam j = Jam.withPots(6, 9);
        for (int p = 0; p < 6; p++) {
            j.hear(p, p, 1);
        }
        due(j.told(3), 4);
        due(j.told(4), 63);
        due(j.told(5), 63);
        due(j.told(6), 0);
    }

    /** The same again leaves as many. */
    static void fitsByTheSameAgain() {
        Jam j = Jam.withPots(2, 9);
        j.hear(0, 2, 1);
        j.hear(0, 2, 1);
        j.hear(1, 2, 1);
        due(j.told(3), 128);
    }

    /** "-1: nothing": all FIT if it would SAY nothing, none if it would SAY something. */
    static void fitsByNothingSaid() {
        Jam j = Jam.withPot(POT, 0, 3);
        j.hear(0, 0, -1);
        due(j.told(3), 256);
        j.sugar(0, 4);
        due(j.told(3), 0);
        j.sugar(0, 0);
        due(j.told(3), 256);
        j.cellarOf("haze 1 f=0");
        due(j.told(3), 0);
    }

    /** What one that SAYS nothing is told to have said FITS nothing. */
    static void noneFitsIfItWouldSayNothing() {
        Jam j = Jam.withPot(POT, 0, 3);
        j.hear(0, 0, 1);
        due(j.told(3), 0);
        j.hear(-1, 0, 0);
        j.hear(0, 0, 0);
        due(j.told(3), 0);
    }

    /** None FITS by two that are against one another. */
    static void noneFitsByOneAgainstAnother() {
        Jam j = Jam.withPots(2, 9);
        j.hear(0, 2, 1);
        j.hear(1, 2, 0);
        due(j.told(3), 0);
        j.hear(-1, 0, 0);
        j.hear(0, 2, 0);
        j.hear(0, 3, 1);
        j.hear(0, 2, 1);
        due(j.told(3), 0);
    }

    private static Jam noneFits() {
        Jam j = Jam.withPots(2, 9);
        j.hear(0, 2, 1);
        j.hear(1, 2, 0);
        return j;
    }

    /** "the least (-5: none)". */
    static void theLeastOfNone() {
        due(noneFits().told(4), SILENT);
    }

    /** "SURE: .. (0, if there are none)". */
    static void sureOfNone() {
        due(noneFits().told(5), 0);
    }

    /** "NEVER: .. (255, if there are none)". */
    static void neverOfNone() {
        due(noneFits().told(6), 255);
    }

    /** FITS are by each POT "as it is now", and not by THE WORLD. */
    static void fitsAreAsAllIsNow() {
        Jam j = Jam.withPot(POT, 0, 4);
        j.hear(0, 0, 1);
        due(j.told(3), 128);
        j.world(255);
        due(j.told(3), 128);
        j.spoon(0, 0);
        due(j.told(3), 0);
        j.pass(5);
        due(j.told(3), 128);
        j.cellarOf("haze 9 f=0");
        due(j.told(4), 0);
        due(j.told(6), 1);
    }

    /** NEXT: "-5: there are no POTS". */
    static void nextOfNoPots() {
        due(new Jam().told(7), SILENT);
    }

    /** NEXT: "or nothing FITS". */
    static void nextIfNothingFits() {
        due(noneFits().told(7), SILENT);
    }

    /** "of several the first": all leave as many where none SAYS anything. */
    static void nextIsTheFirstOfSeveral() {
        due(Jam.withPots(3, 0).told(7), 0);
        due(Jam.withPots(3, 9).told(7), 0);
        Jam j = Jam.withPots(3, 0);
        j.cellarOf("sweet 9 p=1&f>4|p=2&f<3");
        due(j.told(7), 15);
    }

    /** One that halves, truly or the other way, goes ahead of one that SAYS nothing. */
    static void nextLeavesTheLeast() {
        Jam j = Jam.withPots(2, 0);
        j.cellarOf("sweet 4 p=1&f=7");
        due(j.told(7), 17);
        j.cellarOf("haze 1 p=1&f=6");
        due(j.told(7), 16);
        j.cellarOf("sweet 3 p=0;sweet 4 p=1&f=3");
        due(j.told(7), 13);
    }

    /** A FACT that is told already leaves all that FITS. */
    static void nextIsNotWhatIsTold() {
        Jam j = Jam.withPots(2, 9);
        j.hear(0, 0, 1);
        due(j.told(7), 1);
        j.hear(1, 1, 0);
        due(j.told(7), 2);
        for (int fact = 2; fact < 6; fact++) {
            j.hear(0, fact, 1);
        }
        due(j.told(7), 6);
        j.cellarOf("haze 9 f>5");
        due(j.told(7), 0);
    }

    /** There is no FACT beyond 7 to ask about, though a TEST would hold for one. */
    static void nextIsOfFacts0To7() {
        Jam j = Jam.withPots(6, 0);
        j.cellarOf("sweet 9 f>7|p>5");
        due(j.told(7), 0);
        j.cellarOf("sweet 9 f>6&p=5");
        due(j.told(7), 57);
    }

    /** FOUND: no POTS, or none that SAYS anything, is 0. */
    static void foundOfNothingIs0() {
        due(new Jam().told(10), 0);
        due(new Jam().told(17), 0);
        due(Jam.withPots(6, 3).told(10), 0);
    }

    /** "each one that SAYS 1 .. counting as much as its CLEAR (without its sign), each one that SAYS 0 as much below 0". */
    static void foundIsWithoutTheSign() {
        Jam j = new Jam();
        j.pot(POT, 0, 7);
        j.pot(WASP, 0, 4);
        j.pot(POT, 0, 3);
        j.world(0b10);
        due(j.told(11), 7 - 4);
        due(j.told(10), -7);
        j.world(0);
        due(j.told(11), -7 + 4);
        due(j.told(17), -7 + 4);
        j.world(255);
        due(j.told(17), 7 - 4);
        j.sugar(0, 0);
        due(j.told(17), -4);
        j.world(0);
        due(j.told(17), 4);
    }

    /** CLEAR from 4 on and below 0 counts; from 0 to 3 it does not. */
    static void foundIsOfWhatIsSaidAlone() {
        Jam j = Jam.withPots(6, 0);
        j.world(1);
        for (int p = 0; p < 6; p++) {
            j.sugar(p, p);
        }
        due(j.told(10), 4 + 5);
        j.cellarOf("haze 1 f=0");
        due(j.told(10), 4 - 1);
        j.cellarOf("haze 99 f=0");
        due(j.told(10), -(6 * 99 - 15));
    }

    /** "what is asked changes nothing". */
    static void askedChangesNothing() {
        changesNothing(j -> {
            for (int what = -1; what <= 18; what++) {
                j.told(what);
            }
        });
    }
}
