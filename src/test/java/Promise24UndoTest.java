/** Promise 24: undo. */
public final class Promise24UndoTest extends Sentences {
    public static void main(String[] args) {
        run(Promise24UndoTest.class);
    }

    /** "STATE: there is none", and nothing changes. */
    static void noImageIsState() {
        Jam j = Jam.withPots(2, 3);
        j.world(9);
        due(j.undo(), STATE);
        due(j.count(0), 2);
        due(j.told(2), 9);
        due(j.undo(), STATE);
    }

    /** "All is as THE IMAGE: how many POTS." */
    static void howManyPots() {
        for (int pots = 0; pots <= 6; pots++) {
            Jam j = Jam.withPots(pots, 3);
            j.image();
            for (int more = pots; more < 6; more++) {
                j.pot(DAMSON, 9, 9);
            }
            due(j.undo(), pots);
            due(j.count(0), pots);
            due(j.on(0, 0), 3 * pots);
            due(j.pot(POT, 0, 0), pots < 6 ? pots : FULL);
        }
    }

    /** THE IMAGE stays, and can be gone back to again. */
    static void againAndAgain() {
        Jam j = Jam.withPot(POT, 0, 3);
        j.image();
        for (int i = 0; i < 3; i++) {
            j.sugar(0, 9);
            j.world(200);
            j.pot(POT, 0, 9);
            due(j.undo(), 1);
            due(j.of(0, 2), 3);
            due(j.told(2), 0);
            due(j.undo(), 1);
        }
    }

    /** "THE IMAGE: THE WORLD". */
    static void theWorld() {
        Jam j = new Jam();
        j.world(255);
        j.image();
        j.world(0);
        j.undo();
        due(j.told(2), 255);
    }

    /** "POTS with all that is theirs": KIND, v, SUGAR, AGE, OPENED, ROW. */
    static void potsWithAllThatIsTheirs() {
        Jam j = Jam.withPot(TOLD, 4, 6);
        j.pass(3);
        j.spoon(0, 1);
        for (int part = 0; part < 4; part++) {
            j.row(0, part, part + 2);
        }
        j.image();
        j.pass(9);
        j.spoon(0, 0);
        j.sugar(0, 9);
        for (int part = 0; part < 4; part++) {
            j.row(0, part, 9);
        }
        due(j.undo(), 1);
        due(j.of(0, 0), TOLD);
        due(j.of(0, 1), 4);
        due(j.of(0, 2), 5);
        due(j.of(0, 3), 3);
        due(j.of(0, 4), 1);
        for (int part = 0; part < 4; part++) {
            due(j.row(0, part, 0), part + 2);
        }
    }

    /** POTS that came behind THE IMAGE are no more. */
    static void laterPotsAreNoMore() {
        Jam j = Jam.withPot(POT, 0, 4);
        j.image();
        j.pot(POT, 0, 9);
        j.spoon(1, 0);
        j.plan(1, 10);
        j.undo();
        j.world(1);
        due(j.of(1, 0), NO_SUCH);
        due(j.told(10), 4);
        due(j.on(0, 0), 4);
        due(j.on(0, 11), NO_SUCH);
        due(j.mean(0, 0), 4);
        due(j.ends(0), 4);
        due(j.ends(1), 0);
        due(j.cases(255, 0), 1);
        due(j.cases(255, 1), 1);
        due(j.hear(1, 0, 1), NONE);
        due(j.plan(2, 1), NONE);
        due(j.book(1, 0), NONE);
        due(j.act(1, 0, 1), 0);
        due(j.taken(1, 0), NOTHING);
        due(j.pot(WASP, 1, 1), 1);
        due(j.of(1, 0), WASP);
    }

    /** "TERM": TERMS can go again then. */
    static void term() {
        Jam j = new Jam();
        j.pass(10);
        j.image();
        j.passToTheLastTerm();
        due(j.told(0), 10 + 9960);
        due(j.pass(30), STATE);
        j.undo();
        due(j.told(0), 10);
        due(j.pass(30), 40);
    }

    /** "HEARD": how many, and which. */
    static void heard() {
        Jam j = Jam.withPots(2, 9);
        j.hear(1, 3, 1);
        j.hear(0, 4, 0);
        j.image();
        j.hear(-1, 0, 0);
        j.hear(0, 0, 0);
        j.hear(0, 1, 1);
        j.hear(0, 2, 1);
        j.undo();
        due(j.count(2), 2);
        due(j.told(5), 8);
        due(j.told(6), 16);
        j.sugar(0, 0);
        due(j.told(3), 0);
    }

    /** "the PLAN": how many, and which. */
    static void thePlan() {
        Jam j = Jam.withPots(2, 9);
        j.plan(1, 10);
        j.plan(2, 0);
        j.image();
        j.plan(-1, 0);
        j.plan(2, 1);
        j.plan(0, 0);
        j.plan(1, 0);
        j.undo();
        due(j.count(3), 2);
        due(j.ends(0), 8);
        due(j.ends(1), 1);
    }

    /** "the BOOK": how many, and which. */
    static void theBook() {
        Jam j = Jam.withPots(2, 9);
        j.book(1, 9);
        j.book(0, 8);
        j.image();
        j.book(-1, 0);
        j.book(0, 1);
        j.book(1, 9);
        j.book(1, 9);
        j.undo();
        due(j.count(4), 2);
        due(j.looked(), 1);
        j.sugar(0, 8);
        due(j.looked(), SILENT);
        j.sugar(1, 1);
        due(j.looked(), 0);
    }

    /** "which CELLAR holds": an older one, its CLAUSES and KEEP. */
    static void whichCellarHolds() {
        Jam j = Jam.withPot(POT, 0, 1);
        j.cellarOf("keep 7;sweet 3 f=0");
        j.image();
        j.cellarOf("keep 3;haze 9 f=0");
        due(j.told(1), 3);
        j.undo();
        due(j.told(1), 7);
        due(j.of(0, 10), 4);
        due(j.count(1), 2);
    }

    /** None holds then, if none held. */
    static void noCellarHolds() {
        Jam j = Jam.withPot(POT, 0, 1);
        j.image();
        j.cellarOf("keep 3;haze 9 f=0");
        j.undo();
        due(j.told(1), 5);
        due(j.of(0, 10), 1);
        due(j.count(1), 1);
    }

    /** CELLARS are not of THE IMAGE: numbers go on, and six stay six. */
    static void cellarsStay() {
        Jam j = new Jam();
        j.image();
        for (int i = 0; i < 6; i++) {
            due(j.cellarOf("keep " + i), i);
            j.undo();
            due(j.told(1), 5);
        }
        j.feedAll("keep 9");
        due(j.cellar(), FULL);
        due(j.told(1), 5);
        due(j.count(1), 6);
    }

    /** Behind undo the next CELLAR is the newest and holds. */
    static void theNextCellarHolds() {
        Jam j = new Jam();
        j.cellarOf("keep 1");
        j.image();
        j.cellarOf("keep 2");
        j.undo();
        due(j.cellarOf("keep 3"), 2);
        due(j.told(1), 3);
        j.undo();
        due(j.told(1), 1);
    }

    /** THE TEXT is not of THE IMAGE. */
    static void theTextStays() {
        Jam j = new Jam();
        j.feedAll("kee");
        j.image();
        j.feedAll("p 8");
        j.undo();
        due(j.count(5), 6);
        due(j.cellar(), 0);
        due(j.told(1), 8);
    }

    /** THE TRACE is not of THE IMAGE. */
    static void theTraceStays() {
        Jam j = Jam.withPot(PLUM, 0, 0);
        j.act(0, 2, 1);
        j.image();
        j.act(0, 0, 1);
        j.undo();
        due(j.count(6), 2);
        due(j.trace(0), 30);
        due(j.trace(1), 10);
    }

    /** TAPES are not of THE IMAGE. */
    static void tapesStay() {
        Jam j = new Jam();
        j.tape(0, INTS, 2);
        j.image();
        j.item(0, 1, 44);
        j.tape(1, LONGS, 1);
        j.undo();
        due(j.read(0, 1), 44);
        due(j.read(1, 0), 0);
    }
}
