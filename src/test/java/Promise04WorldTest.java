/** Promise 4: world. */
public final class Promise04WorldTest extends Sentences {
    public static void main(String[] args) {
        run(Promise04WorldTest.class);
    }

    /** "THE WORLD becomes another one: which it was." */
    static void whichItWas() {
        Jam j = new Jam();
        due(j.world(7), 0);
        due(j.world(130), 7);
        due(j.world(130), 130);
        due(j.told(2), 130);
    }

    /** "a WORLD is a set of those that are so, as bits (0 .. 255)": the least and the greatest. */
    static void worldsAre0To255() {
        Jam j = new Jam();
        due(j.world(255), 0);
        due(j.told(2), 255);
        due(j.world(0), 255);
        due(j.told(2), 0);
    }

    /** "BAD", and the one that it was stays. */
    static void outsideIsBad() {
        Jam j = new Jam();
        j.world(99);
        for (int facts : outside(0, 255)) {
            due(j.world(facts), BAD);
            due(j.told(2), 99);
        }
    }

    /** FACT f is bit f. */
    static void factsAreBits() {
        Jam j = Jam.withPot(POT, 0, 9);
        j.world(0b10000001);
        due(j.of(0, 20), 1);
        due(j.of(0, 21), 0);
        due(j.of(0, 26), 0);
        due(j.of(0, 27), 1);
    }

    /** "What is answered so changes nothing". */
    static void refusedChangesNothing() {
        changesNothing(j -> {
            for (int facts : outside(0, 255)) {
                j.world(facts);
            }
        });
    }
}
