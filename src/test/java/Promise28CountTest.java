/** Promise 28: count. */
public final class Promise28CountTest extends Sentences {
    public static void main(String[] args) {
        run(Promise28CountTest.class);
    }

    /** All are 0 at first. */
    static void noneAtFirst() {
        Jam j = new Jam();
        for (int what = 0; what <= 6; what++) {
            due(j.count(what), 0);
        }
    }

    /** "0 POTS", up to six. */
    static void pots() {
        Jam j = new Jam();
        for (int i = 1; i <= 7; i++) {
            j.pot(POT, 0, 0);
            due(j.count(0), Math.min(i, 6));
        }
    }

    /** "1 CELLARS", up to six; a FAULT is none. */
    static void cellars() {
        Jam j = new Jam();
        for (int i = 1; i <= 7; i++) {
            j.cellarOf("x");
            j.cellarOf("keep 1");
            due(j.count(1), Math.min(i, 6));
        }
    }

    /** "2 HEARD", up to six. */
    static void heard() {
        Jam j = Jam.withPot(POT, 0, 0);
        for (int i = 1; i <= 7; i++) {
            j.hear(0, 0, 0);
            due(j.count(2), Math.min(i, 6));
        }
    }

    /** "3 of the PLAN", up to ten. */
    static void plan() {
        Jam j = new Jam();
        for (int i = 1; i <= 11; i++) {
            j.plan(0, 0);
            due(j.count(3), Math.min(i, 10));
        }
    }

    /** "4 of the BOOK", up to eight. */
    static void book() {
        Jam j = Jam.withPot(POT, 0, 0);
        for (int i = 1; i <= 9; i++) {
            j.book(0, 0);
            due(j.count(4), Math.min(i, 8));
        }
    }

    /** "5 bytes of THE TEXT", up to 100. */
    static void bytesOfTheText() {
        Jam j = new Jam();
        for (int i = 1; i <= 101; i++) {
            j.feed(0);
            due(j.count(5), Math.min(i, 100));
        }
    }

    /** "6 bodies that ran in the latest act()". */
    static void bodies() {
        Jam j = new Jam();
        j.pot(POT, 0, 0);
        j.pot(TOLD, 0, 0);
        j.act(1, 2, 0);
        due(j.count(6), 12);
        j.act(0, 2, 0);
        due(j.count(6), 3);
        j.act(2, 0, 0);
        due(j.count(6), 0);
    }

    /** "BAD". */
    static void outsideIsBad() {
        Jam j = Jam.busy();
        for (int what : outside(0, 6)) {
            due(j.count(what), BAD);
        }
    }

    /** Each of its own. */
    static void eachOfItsOwn() {
        Jam j = Jam.withPots(2, 0);
        j.cellarOf("keep 1");
        for (int i = 0; i < 5; i++) {
            if (i < 3) {
                j.hear(0, 0, 0);
            }
            if (i < 4) {
                j.plan(0, 0);
            }
            j.book(0, 0);
        }
        j.feedAll("sixten");
        j.act(0, 2, 0);
        int[] want = {2, 1, 3, 4, 5, 6, 3};
        for (int what = 0; what <= 6; what++) {
            due(j.count(what), want[what]);
        }
    }

    /** "what is asked changes nothing". */
    static void askedChangesNothing() {
        changesNothing(j -> {
            for (int what = -1; what <= 7; what++) {
                j.count(what);
            }
        });
    }
}
