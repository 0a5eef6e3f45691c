/** Promise 8: feed. */
public final class Promise08FeedTest extends Sentences {
    public static void main(String[] args) {
        run(Promise08FeedTest.class);
    }

    /** "A sign (0 .. 127) comes behind THE TEXT's: how many it has." */
    static void howManyItHas() {
        Jam j = new Jam();
        due(j.feed('k'), 1);
        due(j.feed('e'), 2);
        due(j.feed('e'), 3);
        due(j.count(5), 3);
        j.feedAll("p 4");
        due(j.cellar(), 0);
        due(j.told(1), 4);
        due(j.feed('k'), 1);
    }

    /** The least and the greatest sign. */
    static void signsAre0To127() {
        Jam j = new Jam();
        due(j.feed(0), 1);
        due(j.feed(127), 2);
        due(j.cellar(), -10);
    }

    /** "BAD". */
    static void outsideIsBad() {
        Jam j = new Jam();
        j.feedAll("keep 1");
        for (int sign : outside(0, 127)) {
            due(j.feed(sign), BAD);
        }
        // 256 and more would be a good sign, were only its lowest bits taken.
        due(j.feed(256 + '2'), BAD);
        due(j.count(5), 6);
        due(j.cellar(), 0);
        due(j.told(1), 1);
    }

    /** "THE TEXT (bytes, 100 at most)"; "FULL". */
    static void hundredAreFull() {
        Jam j = new Jam();
        for (int i = 1; i <= 100; i++) {
            due(j.feed('a'), i);
        }
        due(j.feed('a'), FULL);
        due(j.feed(0), FULL);
        due(j.count(5), 100);
    }

    /** "the first that a call's words name". */
    static void badGoesAheadOfFull() {
        Jam j = new Jam();
        j.feedAll("k".repeat(100));
        due(j.feed(128), BAD);
        due(j.feed(-1), BAD);
        due(j.feed('k'), FULL);
    }

    /** The sign that was too much is not of THE TEXT, and room comes when it is read. */
    static void whatIsFullIsNotTaken() {
        Jam j = new Jam();
        j.feedAll("keep 1" + ";keep 2".repeat(9) + " ".repeat(31));
        due(j.count(5), 100);
        due(j.feed('x'), FULL);
        due(j.cellar(), -10 - 69);
        due(j.feed('k'), 1);
    }

    /** "What is answered so changes nothing". */
    static void refusedChangesNothing() {
        changesNothing(j -> {
            j.feed(-1);
            j.feed(128);
            j.feed(256 + '1');
        });
    }
}
