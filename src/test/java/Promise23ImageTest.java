/** Promise 23: image. */
public final class Promise23ImageTest extends Sentences {
    public static void main(String[] args) {
        run(Promise23ImageTest.class);
    }

    /** "how many POTS there are": none up to six. */
    static void howManyPots() {
        for (int pots = 0; pots <= 6; pots++) {
            due(Jam.withPots(pots, 0).image(), pots);
        }
    }

    /** "THE IMAGE is taken", and is there then. */
    static void itIsTaken() {
        Jam j = new Jam();
        due(j.undo(), STATE);
        due(j.image(), 0);
        due(j.undo(), 0);
    }

    /** The one that is taken later holds. */
    static void theLaterOneHolds() {
        Jam j = Jam.withPot(POT, 0, 3);
        j.world(1);
        due(j.image(), 1);
        j.pot(POT, 0, 4);
        j.world(2);
        due(j.image(), 2);
        j.world(3);
        due(j.undo(), 2);
        due(j.told(2), 2);
        due(j.count(0), 2);
    }

    /** To take it changes nothing else. */
    static void nothingElseChanges() {
        Jam j = Jam.busy();
        Jam taken = Jam.busy();
        due(taken.image(), 3);
        for (int what = 0; what <= 6; what++) {
            due(taken.count(what), j.count(what));
        }
        for (int what = 0; what <= 17; what++) {
            due(taken.told(what), j.told(what));
        }
        for (int p = 0; p < 3; p++) {
            for (int what = 0; what <= 17; what++) {
                due(taken.of(p, what), j.of(p, what));
            }
        }
        due(taken.ends(0), j.ends(0));
        due(taken.looked(), j.looked());
        due(taken.trace(3), j.trace(3));
        due(taken.read(1, 1), -7);
    }

    /** What comes later is not of THE IMAGE. */
    static void laterChangesAreNotOfIt() {
        Jam j = Jam.withPot(TOLD, 1, 5);
        j.image();
        j.row(0, 0, 9);
        j.row(0, 3, 9);
        j.sugar(0, 9);
        j.hear(0, 0, 1);
        j.plan(2, 0);
        j.book(0, 1);
        j.undo();
        due(j.row(0, 0, 0), 0);
        due(j.row(0, 3, 0), 0);
        due(j.of(0, 2), 5);
        due(j.count(2), 0);
        due(j.count(3), 0);
        due(j.count(4), 0);
    }

    /** It is of 9999, too. */
    static void atTheLastTerm() {
        Jam j = Jam.withPot(POT, 0, 5);
        j.passToTheLastTerm();
        due(j.image(), 1);
        due(j.undo(), 1);
        due(j.told(0), 9999);
        due(j.of(0, 3), 9999);
        due(j.pass(1), STATE);
    }
}
