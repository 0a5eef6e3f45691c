/** Promise 15: can. */
public final class Promise15CanTest extends Sentences {
    public static void main(String[] args) {
        run(Promise15CanTest.class);
    }

    /** "NONE", by the POT. */
    static void noSuchPotIsNone() {
        due(new Jam().can(0, 0), NONE);
        Jam j = Jam.withPot(POT, 0, 9);
        due(j.can(1, 0), NONE);
        for (int pot : outside(0, 5)) {
            due(j.can(pot, 0), NONE);
            due(j.can(pot, 1), NONE);
        }
    }

    /** "NONE", by what. */
    static void noSuchWhatIsNone() {
        Jam j = Jam.withPot(POT, 0, 9);
        for (int what : outside(0, 1)) {
            due(j.can(0, what), NONE);
        }
    }

    /** Nothing HEARD of it: all ten, and 0 is the least. */
    static void allByNothingHeard() {
        Jam j = Jam.withPots(2, 9);
        due(j.can(0, 0), 10);
        due(j.can(0, 1), 0);
        j.hear(1, 0, 1);
        due(j.can(0, 0), 10);
        due(j.can(0, 1), 0);
        due(j.can(1, 0), 0);
    }

    /** "the least (-5: none)". */
    static void theLeastOfNone() {
        Jam j = Jam.withPot(DAMSON, 0, 9);
        j.hear(0, 0, 1);
        due(j.can(0, 0), 0);
        due(j.can(0, 1), SILENT);
    }

    /** "how many numbers v (0 .. 9)", by CLEAR. */
    static void howManyByClear() {
        Jam j = Jam.withPot(DAMSON, 9, 0);
        j.world(1);
        j.hear(0, 0, 1);
        due(j.can(0, 0), 6);
        due(j.can(0, 1), 4);
        j.hear(-1, 0, 0);
        j.hear(0, 0, -1);
        due(j.can(0, 0), 4);
        due(j.can(0, 1), 0);
    }

    /** The first and the last v alone. */
    static void vIs0To9() {
        Jam j = Jam.withPot(DAMSON, 5, 0);
        j.cellarOf("haze 20 v<9;haze 5 v=9");
        j.hear(0, 0, 0);
        due(j.can(0, 0), 1);
        due(j.can(0, 1), 9);
        j.cellarOf("haze 20 v>0;sweet 4 v=0");
        due(j.can(0, 0), 1);
        due(j.can(0, 1), 0);
    }

    /** v counts in a TEST, and in the AGE from which a QUINCE SAYS anything. */
    static void vInATestAndInAge() {
        Jam j = Jam.withPot(POT, 0, 0);
        j.cellarOf("sweet 9 v=2|v=7");
        j.hear(0, 0, 0);
        due(j.can(0, 0), 2);
        due(j.can(0, 1), 2);
        Jam quince = Jam.withPot(QUINCE, 9, 4);
        quince.pass(3);
        quince.hear(0, 0, -1);
        due(quince.can(0, 0), 6);
        due(quince.can(0, 1), 4);
        quince.hear(-1, 0, 0);
        quince.hear(0, 0, 0);
        due(quince.can(0, 0), 4);
        due(quince.can(0, 1), 0);
    }

    /** "likewise": all of HEARD that is of it has to be so, THE WORLD being as it is. */
    static void byAllOfHeardAndTheWorld() {
        Jam j = Jam.withPot(DAMSON, 0, 0);
        j.cellarOf("haze 2 f=1");
        j.hear(0, 0, 0);
        j.hear(0, 1, -1);
        due(j.can(0, 0), 2);
        due(j.can(0, 1), 4);
        j.world(1);
        due(j.can(0, 0), 0);
        due(j.can(0, 1), SILENT);
    }

    /** "what is asked changes nothing". */
    static void askedChangesNothing() {
        changesNothing(j -> {
            for (int pot = -1; pot <= 6; pot++) {
                j.can(pot, 0);
                j.can(pot, 1);
                j.can(pot, 2);
            }
        });
    }
}
