/** Promise 16: odds. */
public final class Promise16OddsTest extends Sentences {
    public static void main(String[] args) {
        run(Promise16OddsTest.class);
    }

    private static void fraction(Jam j, int fact, long above, long below) {
        due(j.odds(fact, 0), above);
        due(j.odds(fact, 1), below);
    }

    /** "a fraction in lowest terms": 128 of 256. */
    static void lowestTerms() {
        for (int fact = 0; fact < 8; fact++) {
            fraction(new Jam(), fact, 1, 2);
        }
        Jam j = Jam.withPot(POT, 0, 9);
        for (int fact = 0; fact < 6; fact++) {
            j.hear(0, fact, 1);
        }
        fraction(j, 6, 1, 2);
        fraction(j, 7, 1, 2);
    }

    /** What is so in all of FITS: 1 of 1. */
    static void sureIs1() {
        Jam j = Jam.withPot(POT, 0, 9);
        j.hear(0, 0, 1);
        j.hear(0, 7, 1);
        fraction(j, 0, 1, 1);
        fraction(j, 7, 1, 1);
        fraction(j, 3, 1, 2);
    }

    /** What is so in none of FITS: 0 of 1. */
    static void neverIs0() {
        Jam j = Jam.withPot(POT, 0, 9);
        j.hear(0, 0, 0);
        j.hear(0, 7, 0);
        fraction(j, 0, 0, 1);
        fraction(j, 7, 0, 1);
        fraction(j, 3, 1, 2);
    }

    /** By one that SAYS it the other way. */
    static void theOtherWay() {
        Jam j = Jam.withPot(WASP, 0, 0);
        j.hear(0, 1, 1);
        j.hear(0, 3, 0);
        fraction(j, 1, 0, 1);
        fraction(j, 3, 1, 1);
    }

    /** "(NO: none FITS)". */
    static void noneFits() {
        Jam j = Jam.withPot(POT, 0, 9);
        j.hear(0, 0, 0);
        j.hear(0, 0, 1);
        for (int fact = 0; fact < 8; fact++) {
            fraction(j, fact, NO, NO);
        }
    }

    /** "NO: fact". */
    static void noSuchFactIsNo() {
        for (int fact : outside(0, 7)) {
            fraction(new Jam(), fact, NO, NO);
        }
    }

    /** "NO: .. part". */
    static void noSuchPartIsNo() {
        for (int part : outside(0, 1)) {
            due(new Jam().odds(0, part), NO);
        }
    }

    /** "what is asked changes nothing". */
    static void askedChangesNothing() {
        changesNothing(j -> {
            for (int fact = -1; fact <= 8; fact++) {
                j.odds(fact, 0);
                j.odds(fact, 1);
                j.odds(fact, 2);
            }
        });
    }
}
