/** Promise 27: taken. */
public final class Promise27TakenTest extends Sentences {
    /** Of each KIND those that it can be taken for. */
    private static final int[][] TAKEN_FOR = {{0}, {0, 1}, {0, 2}, {0, 3}, {0, 1, 4}, {0, 2, 5}, {0, 3, 6}};

    public static void main(String[] args) {
        run(Promise27TakenTest.class);
    }

    /** "A POT taken for one of KIND k (0 .. 6), or one under that: its KIND"; "CAST". */
    static void eachForEach() {
        for (int kind = 0; kind < 7; kind++) {
            Jam j = Jam.withPot(kind, 0, 0);
            for (int k = 0; k < 7; k++) {
                int want = CAST;
                for (int top : TAKEN_FOR[kind]) {
                    want = top == k ? kind : want;
                }
                due(j.taken(0, k), want);
            }
        }
    }

    /** "BAD: k". */
    static void noSuchKindIsBad() {
        Jam j = Jam.withPot(POT, 0, 0);
        for (int k : outside(0, 6)) {
            due(j.taken(0, k), BAD);
        }
    }

    /** "NOTHING: no such POT". */
    static void noSuchPotIsNothing() {
        due(new Jam().taken(0, 0), NOTHING);
        Jam j = Jam.withPot(POT, 0, 0);
        due(j.taken(1, 0), NOTHING);
        due(j.taken(1, 6), NOTHING);
        for (int pot : outside(0, 5)) {
            due(j.taken(pot, 0), NOTHING);
        }
    }

    /** The last POT is one. */
    static void theLastPot() {
        Jam j = Jam.withPots(5, 0);
        j.pot(WASP, 0, 0);
        due(j.taken(5, 2), WASP);
        due(j.taken(5, 3), CAST);
        due(j.taken(6, 2), NOTHING);
    }

    /** "the first that a call's words name": BAD, NOTHING, CAST. */
    static void badGoesAheadOfNothing() {
        Jam j = Jam.withPot(POT, 0, 0);
        due(j.taken(1, 7), BAD);
        due(j.taken(-1, -1), BAD);
        due(j.taken(LOW, HIGH), BAD);
    }

    /** "what is asked changes nothing". */
    static void askedChangesNothing() {
        changesNothing(j -> {
            for (int k = -1; k <= 7; k++) {
                for (int pot = -1; pot <= 3; pot++) {
                    j.taken(pot, k);
                }
            }
        });
    }
}
