/** Promise 25: act. */
public final class Promise25ActTest extends Sentences {
    private static final int SETS = 0, SHOWS = 1, TELLS = 2;

    public static void main(String[] args) {
        run(Promise25ActTest.class);
    }

    private static void acted(Jam j, int pot, int act, int x, int want, int... bodies) {
        due(j.act(pot, act, x), want);
        due(j.count(6), bodies.length);
        for (int i = 0; i < bodies.length; i++) {
            due(j.trace(i), bodies[i]);
        }
        due(j.trace(bodies.length), NONE);
    }

    /** A POT of that KIND and v, with a number above 0, so that i has a part. */
    private static Jam numbered(int number, int kind, int v) {
        Jam j = Jam.withPots(number, 0);
        j.pot(kind, v, 0);
        return j;
    }

    /** "10 sets: x + i. 11 shows: sets(x) - v. 12 tells: shows(x) * 2." */
    static void ofAPot() {
        Jam j = numbered(2, POT, 3);
        acted(j, 2, SETS, 5, 7, 10);
        acted(j, 2, SHOWS, 5, 4, 11, 10);
        acted(j, 2, TELLS, 5, 8, 12, 11, 10);
    }

    /** "DAMSON: 20 shows: super.shows(x) ^ 6." */
    static void ofADamson() {
        Jam j = numbered(1, DAMSON, 3);
        acted(j, 1, SETS, 5, 6, 10);
        acted(j, 1, SHOWS, 5, 3 ^ 6, 20, 11, 10);
        acted(j, 1, TELLS, 5, (3 ^ 6) * 2, 12, 20, 11, 10);
    }

    /** "PLUM: 30 sets: super.sets(x * 3)." */
    static void ofAPlum() {
        Jam j = numbered(2, PLUM, 3);
        acted(j, 2, SETS, 5, 17, 30, 10);
        acted(j, 2, SHOWS, 5, 14, 11, 30, 10);
        acted(j, 2, TELLS, 5, 28, 12, 11, 30, 10);
    }

    /** "BERRY: 40 tells: super.tells(x) + shows(1)." */
    static void ofABerry() {
        Jam j = numbered(3, BERRY, 2);
        acted(j, 3, SETS, 5, 8, 10);
        acted(j, 3, SHOWS, 5, 6, 11, 10);
        acted(j, 3, TELLS, 5, 12 + 2, 40, 12, 11, 10, 11, 10);
    }

    /** "QUINCE: 50 sets: -super.sets(x). 51 shows: super.shows(x + 1)." */
    static void ofAQuince() {
        Jam j = numbered(4, QUINCE, 3);
        acted(j, 4, SETS, 5, -9, 50, 10);
        acted(j, 4, SHOWS, 5, -13 ^ 6, 51, 20, 11, 50, 10);
        acted(j, 4, TELLS, 5, (-13 ^ 6) * 2, 12, 51, 20, 11, 50, 10);
    }

    /** "WASP: 60 tells: super.tells(x - i)." */
    static void ofAWasp() {
        Jam j = numbered(5, WASP, 3);
        acted(j, 5, SETS, 5, 20, 30, 10);
        acted(j, 5, SHOWS, 5, 17, 11, 30, 10);
        acted(j, 5, TELLS, 7, (6 + 5 - 3) * 2, 60, 12, 11, 30, 10);
    }

    /** "TOLD: 70 shows: super.shows(x) + super.sets(2). 71 sets: super.sets(x) ^ v." */
    static void ofATold() {
        Jam j = numbered(1, TOLD, 3);
        acted(j, 1, SETS, 5, 6 ^ 3, 71, 10);
        int shows5 = (6 ^ 3) - 3 + 3;
        int shows1 = (2 ^ 3) - 3 + 3;
        acted(j, 1, SHOWS, 5, shows5, 70, 11, 71, 10, 10);
        acted(j, 1, TELLS, 5, shows5 * 2 + shows1, 40, 12, 70, 11, 71, 10, 10, 70, 11, 71, 10, 10);
    }

    /** "(wrapping)". */
    static void wrapping() {
        Jam j = new Jam();
        j.pot(POT, 1, 0);
        j.pot(PLUM, 0, 0);
        j.pot(QUINCE, 0, 0);
        j.pot(BERRY, 9, 0);
        j.pot(WASP, 9, 0);
        due(j.act(0, SHOWS, LOW), HIGH);
        due(j.act(0, TELLS, LOW), -2);
        due(j.act(0, TELLS, HIGH), -4);
        due(j.act(1, SETS, HIGH), HIGH - 1);
        due(j.act(1, SETS, LOW), LOW + 1);
        due(j.act(2, SETS, HIGH), HIGH);
        due(j.act(2, SETS, HIGH - 1), LOW);
        due(j.act(2, SHOWS, HIGH), (HIGH - 1) ^ 6);
        due(j.act(3, SETS, HIGH), LOW + 2);
        due(j.act(3, TELLS, HIGH), (HIGH - 6) * 2 - 5);
        due(j.act(4, TELLS, LOW), ((HIGH - 3) * 3 - 5) * 2);
    }

    /** "0, and no TRACE then: no such POT". */
    static void noSuchPotIs0() {
        acted(new Jam(), 0, SETS, 5, 0);
        Jam j = Jam.withPot(PLUM, 0, 0);
        for (int pot : outside(0, 5)) {
            j.act(0, SETS, 7);
            acted(j, pot, SETS, 5, 0);
        }
        j.act(0, SETS, 7);
        acted(j, 1, SETS, 5, 0);
    }

    /** "0, and no TRACE then: .. act". */
    static void noSuchActIs0() {
        Jam j = Jam.withPot(PLUM, 0, 0);
        for (int act : outside(0, 2)) {
            j.act(0, SETS, 7);
            acted(j, 0, act, 5, 0);
        }
    }

    /** SUGAR, AGE, OPENED and all else but THE TRACE have no part in it and stay. */
    static void nothingElseChanges() {
        changesNothing(j -> {
            j.act(0, TELLS, 9);
            j.act(2, SHOWS, -9);
            j.act(1, TELLS, 5);
        });
        Jam j = Jam.withPot(TOLD, 3, 0);
        int before = j.act(0, TELLS, 4);
        j.sugar(0, 9);
        j.spoon(0, 0);
        j.pass(7);
        j.row(0, 0, 9);
        j.world(255);
        due(j.act(0, TELLS, 4), before);
    }
}
