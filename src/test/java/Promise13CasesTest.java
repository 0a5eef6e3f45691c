/** Promise 13: cases. */
public final class Promise13CasesTest extends Sentences {
    public static void main(String[] args) {
        run(Promise13CasesTest.class);
    }

    /** "NONE: what". */
    static void noSuchWhatIsNone() {
        Jam j = Jam.withPot(POT, 0, 9);
        for (int what : outside(0, 1)) {
            due(j.cases(1, what), NONE);
        }
    }

    /** "BAD: facts". */
    static void outsideIsBad() {
        Jam j = Jam.withPot(POT, 0, 9);
        for (int facts : outside(0, 255)) {
            due(j.cases(facts, 0), BAD);
            due(j.cases(facts, 1), BAD);
        }
    }

    /** "the first that a call's words name". */
    static void noneGoesAheadOfBad() {
        Jam j = Jam.withPot(POT, 0, 9);
        due(j.cases(256, 2), NONE);
        due(j.cases(-1, -1), NONE);
        due(j.cases(LOW, HIGH), NONE);
    }

    /** "For a set of FACTS (0 .. 255)": none of them is told by no POTS. */
    static void ofNoFacts() {
        due(new Jam().cases(0, 0), 0);
        due(new Jam().cases(0, 1), 0);
        Jam j = Jam.withPots(6, 9);
        due(j.cases(0, 0), 0);
        due(j.cases(0, 1), 0);
    }

    /** All 8 FACTS. */
    static void ofAllFacts() {
        Jam j = Jam.withPots(6, 9);
        due(j.cases(255, 0), 1);
        due(j.cases(255, 1), 6);
        j.cellarOf("haze 9 f=7&p<5");
        due(j.cases(255, 0), 32);
        due(j.cases(127, 0), 1);
        due(j.cases(128, 0), 32);
    }

    /** ENOUGH: "(-5: none)". */
    static void enoughIsNone() {
        due(new Jam().cases(1, 0), SILENT);
        due(new Jam().cases(255, 0), SILENT);
        Jam j = Jam.withPots(6, 3);
        due(j.cases(1, 0), SILENT);
        j.cellarOf("sweet 9 f<7");
        due(j.cases(127, 0), 1);
        due(j.cases(128, 0), SILENT);
        due(j.cases(129, 0), SILENT);
    }

    /** "the set with the fewest POTS". */
    static void enoughIsTheFewest() {
        Jam j = Jam.withPots(4, 0);
        j.cellarOf("sweet 9 p=0&f<2|p=1&f>1&f<4|p=2&f>3|p=3&f<4");
        due(j.cases(0b00000011, 0), 0b0001);
        due(j.cases(0b00001111, 0), 0b1000);
        due(j.cases(0b11111111, 0), 0b1100);
        due(j.cases(0b00010001, 0), 0b0101);
    }

    /** "of several the least as bits". */
    static void enoughIsTheLeastOfSeveral() {
        Jam j = Jam.withPots(6, 0);
        j.cellarOf("sweet 9 f<4&p<3|f>3&p>1&p<5");
        due(j.cases(0b00000001, 0), 0b000001);
        due(j.cases(0b10000000, 0), 0b000100);
        due(j.cases(0b00011000, 0), 0b000100);
        j.cellarOf("sweet 9 f=0&p<3|f=1&p>2");
        due(j.cases(0b11, 0), 0b001001);
        j.cellarOf("sweet 9 f=0&p>0|f=1&p<1|f=1&p=4");
        due(j.cases(0b11, 0), 0b010000);
    }

    /** All six POTS may be needed. */
    static void enoughIsAll() {
        Jam j = Jam.withPots(6, 0);
        j.cellarOf("sweet 9 p=0&f=0|p=1&f=1|p=2&f=2|p=3&f=3;haze 9 p=4&f=4|p=5&f=5");
        due(j.cases(0b111111, 0), 0b111111);
        due(j.cases(0b101010, 0), 0b101010);
        due(j.cases(0b1111111, 0), SILENT);
    }

    /** "one of it at least SAYS 1 or 0": CLEAR 4 and below 0, not 3 and 0. */
    static void byWhatSaysAnything() {
        Jam j = Jam.withPot(POT, 0, 3);
        j.cellarOf("sweet 1 f=1;haze 3 f=2;haze 4 f=3");
        due(j.cases(1, 0), SILENT);
        due(j.cases(2, 0), 1);
        due(j.cases(4, 0), SILENT);
        due(j.cases(8, 0), 1);
        due(j.cases(1, 1), 0);
        due(j.cases(2, 1), 1);
        due(j.cases(4, 1), 0);
        due(j.cases(8, 1), 1);
    }

    /** OWN: none without POTS, or where none SAYS anything. */
    static void ownIs0() {
        due(new Jam().cases(255, 1), 0);
        due(Jam.withPots(6, 3).cases(255, 1), 0);
    }

    /** "no POT to two". */
    static void ownIsOnePotEach() {
        due(Jam.withPots(1, 9).cases(255, 1), 1);
        Jam j = Jam.withPots(6, 0);
        j.cellarOf("sweet 9 p<2&f=0");
        due(j.cases(255, 1), 1);
        j.cellarOf("sweet 9 p=3");
        due(j.cases(255, 1), 1);
        j.cellarOf("sweet 9 p=3|p=5");
        due(j.cases(255, 1), 2);
    }

    /** "the greatest number of them", whichever would be given first. */
    static void ownIsTheGreatest() {
        Jam j = Jam.withPots(3, 0);
        j.cellarOf("sweet 9 p=0&f<3|p=1&f<2|p=2&f=0");
        due(j.cases(0b111, 1), 3);
        j.cellarOf("sweet 9 p=2&f<3|p=1&f<2|p=0&f=0");
        due(j.cases(0b111, 1), 3);
        j.cellarOf("sweet 9 f=0|p=0&f=1|p=1&f=2");
        due(j.cases(0b111, 1), 3);
        due(j.cases(0b110, 1), 2);
        j.cellarOf("sweet 9 p=0|f=0");
        due(j.cases(0b111, 1), 2);
        due(j.cases(0b110, 1), 1);
    }

    /** As many as POTS, or as many as FACTS, at most. */
    static void ownAtMost() {
        Jam j = Jam.withPots(6, 9);
        due(j.cases(255, 1), 6);
        due(j.cases(0b1111111, 1), 6);
        due(j.cases(0b111111, 1), 6);
        due(j.cases(0b11111, 1), 5);
        due(j.cases(0b10000000, 1), 1);
    }

    /** "what is asked changes nothing". */
    static void askedChangesNothing() {
        changesNothing(j -> {
            for (int facts = -1; facts <= 257; facts += 6) {
                j.cases(facts, 0);
                j.cases(facts, 1);
                j.cases(facts, 2);
            }
        });
    }
}
