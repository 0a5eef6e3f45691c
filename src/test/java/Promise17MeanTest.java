/** Promise 17: mean. */
public final class Promise17MeanTest extends Sentences {
    public static void main(String[] args) {
        run(Promise17MeanTest.class);
    }

    private static void fraction(Jam j, int n, long above, long below) {
        due(j.mean(n, 0), above);
        due(j.mean(n, 1), below);
    }

    /** "(NO: there are none)". */
    static void noPotsIsNo() {
        fraction(new Jam(), 0, NO, NO);
        fraction(new Jam(), 60, NO, NO);
    }

    /** "a fraction in lowest terms". */
    static void lowestTerms() {
        int[][] sums = {{0, 0, 1}, {1, 1, 6}, {2, 1, 3}, {3, 1, 2}, {4, 2, 3}, {6, 1, 1}, {7, 7, 6}, {9, 3, 2}};
        for (int[] sum : sums) {
            Jam j = Jam.withPots(6, 0);
            j.sugar(5, sum[0]);
            fraction(j, 0, sum[1], sum[2]);
        }
        Jam j = Jam.withPots(4, 2);
        j.sugar(0, 4);
        fraction(j, 0, 5, 2);
        j.sugar(0, 6);
        fraction(j, 0, 3, 1);
    }

    /** 0 is 0 of 1, whatever they are. */
    static void nothingIs0Of1() {
        for (int pots = 1; pots <= 6; pots++) {
            fraction(Jam.withPots(pots, 0), 0, 0, 1);
        }
    }

    /** All have as much as they can. */
    static void theMostIs9Of1() {
        fraction(Jam.withPots(6, 9), 60, 9, 1);
        fraction(Jam.withPots(6, 0), 60, 9, 1);
    }

    /** "MEAN of n TERMS (0 .. 60): SUGAR of all behind n". */
    static void nIs0To60() {
        Jam j = Jam.withPots(2, 3);
        j.sugar(0, 4);
        j.cellarOf("keep 60");
        fraction(j, 0, 7, 2);
        fraction(j, 59, 7, 2);
        fraction(j, 60, 9, 2);
        j.cellarOf("keep 1");
        fraction(j, 1, 9, 2);
        fraction(j, 5, 17, 2);
        fraction(j, 6, 9, 1);
    }

    /** "NO", by n. */
    static void outsideIsNo() {
        Jam j = Jam.withPot(POT, 0, 3);
        for (int n : outside(0, 60)) {
            fraction(j, n, NO, NO);
        }
    }

    /** "part likewise": NO. */
    static void noSuchPartIsNo() {
        Jam j = Jam.withPot(POT, 0, 3);
        for (int part : outside(0, 1)) {
            due(j.mean(0, part), NO);
        }
    }

    /** "goes on from how all is (TERMS, AGE beyond 9999, too)". */
    static void itGoesOnBeyond9999() {
        Jam j = Jam.withPot(POT, 0, 0);
        j.passToTheLastTerm();
        j.sugar(0, 0);
        fraction(j, 0, 0, 1);
        fraction(j, 1, 1, 1);
        fraction(j, 5, 1, 1);
        fraction(j, 6, 2, 1);
        j.pot(POT, 0, 0);
        fraction(j, 1, 1, 2);
        due(j.told(0), 9999);
    }

    /** "what is asked changes nothing". */
    static void askedChangesNothing() {
        changesNothing(j -> {
            for (int n = -1; n <= 61; n += 2) {
                j.mean(n, 0);
                j.mean(n, 1);
                j.mean(n, 2);
            }
        });
    }
}
