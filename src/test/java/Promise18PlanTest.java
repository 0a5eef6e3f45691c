/** Promise 18: plan. */
public final class Promise18PlanTest extends Sentences {
    public static void main(String[] args) {
        run(Promise18PlanTest.class);
    }

    /** "A row comes to the PLAN: how many there are". */
    static void howManyThereAre() {
        Jam j = Jam.withPots(6, 9);
        due(j.plan(0, 0), 1);
        due(j.plan(1, 57), 2);
        due(j.plan(2, 5), 3);
        due(j.plan(3, 7), 4);
        due(j.count(3), 4);
    }

    /** "(what -1: it is empty then, 0)", whatever n is. */
    static void what1BelowIsEmptyThen() {
        Jam j = Jam.withPot(POT, 0, 9);
        due(j.plan(-1, 0), 0);
        j.plan(2, 0);
        due(j.ends(0), 0);
        due(j.plan(-1, HIGH), 0);
        due(j.count(3), 0);
        due(j.ends(0), 9);
        due(j.plan(0, 0), 1);
        due(j.plan(-1, LOW), 0);
    }

    /** It is empty then though it was full. */
    static void fullAndEmptyThen() {
        Jam j = Jam.withPot(POT, 0, 9);
        for (int i = 0; i < 11; i++) {
            j.plan(1, 0);
        }
        due(j.plan(-1, 0), 0);
        due(j.plan(1, 0), 1);
        due(j.ends(0), 8);
    }

    /** "NONE: what (0 .. 3)". */
    static void noSuchWhatIsNone() {
        Jam j = Jam.withPot(POT, 0, 9);
        for (int what : outsideBut1Below(3)) {
            due(j.plan(what, 0), NONE);
        }
        due(j.count(3), 0);
    }

    /** "by 0 n does not matter". */
    static void by0AnyN() {
        Jam j = new Jam();
        int rows = 0;
        for (int n : new int[] {0, -1, 9, 60, LOW, HIGH}) {
            rows++;
            due(j.plan(0, n), rows);
        }
    }

    /** "NONE: .. pot, fact (by 1)": the POT is n by 10. */
    static void by1NoSuchPotIsNone() {
        Jam none = new Jam();
        due(none.plan(1, 0), NONE);
        due(none.plan(1, 7), NONE);
        Jam two = Jam.withPots(2, 9);
        for (int n : new int[] {20, 27, 50, 60, 100, 2560, 65536 * 10, -1, -7, -10, -13, LOW, HIGH}) {
            due(two.plan(1, n), NONE);
        }
        due(two.plan(1, 10), 1);
        Jam six = Jam.withPots(6, 9);
        due(six.plan(1, 50), 1);
        due(six.plan(1, 57), 2);
        due(six.plan(1, 60), NONE);
    }

    /** "NONE: .. fact (by 1)": 8 and 9 are none. */
    static void by1NoSuchFactIsNone() {
        Jam j = Jam.withPots(2, 9);
        for (int n : new int[] {8, 9, 18, 19}) {
            due(j.plan(1, n), NONE);
        }
        due(j.plan(1, 0), 1);
        due(j.plan(1, 7), 2);
        due(j.plan(1, 17), 3);
    }

    /** "pot (by 2)". */
    static void by2NoSuchPotIsNone() {
        due(new Jam().plan(2, 0), NONE);
        Jam j = Jam.withPots(2, 9);
        due(j.plan(2, 2), NONE);
        due(j.plan(2, 10), NONE);
        for (int n : outside(0, 5)) {
            due(j.plan(2, n), NONE);
        }
        due(j.plan(2, 0), 1);
        due(j.plan(2, 1), 2);
    }

    /** "fact (by 3)", without POTS, too. */
    static void by3NoSuchFactIsNone() {
        Jam j = new Jam();
        for (int n : outside(0, 7)) {
            due(j.plan(3, n), NONE);
        }
        due(j.plan(3, 0), 1);
        due(j.plan(3, 7), 2);
    }

    /** "10 rows at most"; "FULL: 10". */
    static void tenAreFull() {
        Jam j = Jam.withPot(POT, 0, 9);
        for (int i = 1; i <= 9; i++) {
            due(j.plan(1, 0), i);
        }
        due(j.ends(0), 0);
        due(j.plan(3, 0), 10);
        due(j.plan(0, 0), FULL);
        due(j.plan(1, 0), FULL);
        due(j.plan(2, 0), FULL);
        due(j.plan(3, 0), FULL);
        due(j.count(3), 10);
    }

    /** "the first that a call's words name". */
    static void noneGoesAheadOfFull() {
        Jam j = Jam.withPot(POT, 0, 9);
        for (int i = 0; i < 10; i++) {
            j.plan(0, 0);
        }
        due(j.plan(4, 0), NONE);
        due(j.plan(-2, 0), NONE);
        due(j.plan(1, 8), NONE);
        due(j.plan(1, 10), NONE);
        due(j.plan(2, 1), NONE);
        due(j.plan(3, 8), NONE);
    }

    /** It is planned, not done. */
    static void nothingIsDone() {
        Jam j = Jam.withPot(POT, 0, 9);
        j.plan(0, 0);
        j.plan(1, 0);
        j.plan(2, 0);
        j.plan(3, 0);
        due(j.told(0), 0);
        due(j.of(0, 2), 9);
        due(j.of(0, 3), 0);
        due(j.of(0, 4), 0);
        due(j.told(2), 0);
    }

    /** "What is answered so changes nothing". */
    static void refusedChangesNothing() {
        changesNothing(j -> {
            j.plan(4, 0);
            j.plan(-2, 0);
            j.plan(1, 8);
            j.plan(1, 30);
            j.plan(1, -1);
            j.plan(2, 3);
            j.plan(3, 8);
        });
        changesNothing(j -> {
            for (int i = 0; i < 7; i++) {
                j.plan(0, 0);
            }
        }, j -> due(j.plan(2, 1), FULL));
    }
}
