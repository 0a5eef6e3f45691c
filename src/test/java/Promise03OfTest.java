/** Promise 3: of. */
public final class Promise03OfTest extends Sentences {
    public static void main(String[] args) {
        run(Promise03OfTest.class);
    }

    /** "what 0 KIND, 1 v, 2 SUGAR, 3 AGE, 4 OPENED". */
    static void traits() {
        Jam j = Jam.withPot(WASP, 4, 6);
        j.pass(7);
        j.spoon(0, 0);
        j.spoon(0, 0);
        due(j.of(0, 0), WASP);
        due(j.of(0, 1), 4);
        due(j.of(0, 2), 5);
        due(j.of(0, 3), 7);
        due(j.of(0, 4), 2);
    }

    /** "-10001: NONE", by the POT. */
    static void noSuchPotIsNone() {
        Jam j = new Jam();
        due(j.of(0, 0), NO_SUCH);
        j.pot(POT, 0, 0);
        due(j.of(1, 0), NO_SUCH);
        for (int pot : outside(0, 5)) {
            due(j.of(pot, 0), NO_SUCH);
            due(j.of(pot, 5), NO_SUCH);
            due(j.of(pot, 10), NO_SUCH);
            due(j.of(pot, 37), NO_SUCH);
        }
    }

    /** "-10001: NONE", by what: nothing is below 0, or from 6 to 9, or beyond FACT 7 of CLEAR, SAYS, WHEN. */
    static void noSuchWhatIsNone() {
        Jam j = Jam.withPot(POT, 0, 5);
        int[] none = {-1, -5, -10, -13, 6, 7, 8, 9, 18, 19, 28, 29, 38, 39, 40, 47, 50, 100, 110, 266, 65536, LOW, HIGH};
        for (int what : none) {
            due(j.of(0, what), NO_SUCH);
        }
        due(j.of(1, 6), NO_SUCH);
    }

    /** The first and the last FACT that CLEAR, SAYS and WHEN can be asked of. */
    static void factsAre0To7() {
        Jam j = Jam.withPot(POT, 0, 0);
        j.cellarOf("sweet 6 f=0;sweet 8 f=7");
        due(j.of(0, 10), 6);
        due(j.of(0, 17), 8);
        j.world(0b10000000);
        due(j.of(0, 20), 0);
        due(j.of(0, 27), 1);
        due(j.of(0, 30), 0);
        due(j.of(0, 37), 0);
        due(j.of(0, 36), 20);
    }

    /** "POT: SUM", with SUGAR 0 and 9; "SUM .. (may be below 0)". */
    static void clearOfPot() {
        Jam j = Jam.withPot(POT, 9, 0);
        due(j.of(0, 10), 0);
        j.sugar(0, 9);
        due(j.of(0, 10), 9);
        j.cellarOf("haze 99 f=1;haze 9 f=2;haze 10 f=3");
        due(j.of(0, 11), -90);
        due(j.of(0, 12), 0);
        due(j.of(0, 13), -1);
    }

    /** "DAMSON: SUM and v". */
    static void clearOfDamson() {
        due(Jam.withPot(DAMSON, 0, 7).of(0, 10), 7);
        due(Jam.withPot(DAMSON, 9, 9).of(0, 17), 18);
        Jam j = Jam.withPot(DAMSON, 4, 0);
        j.cellarOf("haze 5 f<9");
        due(j.of(0, 10), -1);
    }

    /** "PLUM: the half (cut toward 0) of SUM". */
    static void clearOfPlumIsCutToward0() {
        Jam j = Jam.withPot(PLUM, 9, 0);
        j.cellarOf("haze 1 f=1;haze 2 f=2;haze 3 f=3;sweet 1 f=4;sweet 2 f=5;sweet 3 f=6");
        due(j.of(0, 10), 0);
        due(j.of(0, 11), 0);
        due(j.of(0, 12), -1);
        due(j.of(0, 13), -1);
        due(j.of(0, 14), 0);
        due(j.of(0, 15), 1);
        due(j.of(0, 16), 1);
    }

    /** "BERRY: SUM, less twice OPENED", OPENED being 0 up to 9. */
    static void clearOfBerry() {
        Jam j = Jam.withPot(BERRY, 9, 9);
        for (int opened = 0; opened <= 10; opened++) {
            j.sugar(0, 9);
            due(j.of(0, 10), 9 - 2 * Math.min(opened, 9));
            j.spoon(0, 0);
        }
    }

    /** "QUINCE: as DAMSON; 0, if AGE is less than v". */
    static void clearOfQuinceByAge() {
        due(Jam.withPot(QUINCE, 0, 5).of(0, 10), 5);
        Jam j = Jam.withPot(QUINCE, 3, 5);
        due(j.of(0, 10), 0);
        j.pass(2);
        due(j.of(0, 10), 0);
        j.pass(1);
        due(j.of(0, 10), 8);
        j.pass(1);
        due(j.of(0, 10), 8);
    }

    /** It is 0 then even where it would be below 0. */
    static void clearOfYoungQuinceIs0WhateverSumIs() {
        Jam j = Jam.withPot(QUINCE, 1, 5);
        j.cellarOf("haze 50 f=0;sweet 50 f=1");
        due(j.of(0, 10), 0);
        due(j.of(0, 11), 0);
        j.pass(1);
        due(j.of(0, 10), -44);
        due(j.of(0, 11), 56);
    }

    /** "WASP: as PLUM, less 6, if the number of the FACT is odd". */
    static void clearOfWaspByOddFacts() {
        Jam j = Jam.withPot(WASP, 9, 9);
        for (int fact = 0; fact < 8; fact++) {
            due(j.of(0, 10 + fact), fact % 2 == 0 ? 4 : -2);
        }
        j.cellarOf("haze 10 f<9");
        due(j.of(0, 10), 0);
        due(j.of(0, 11), -6);
    }

    /** "TOLD: as BERRY, and its ROW .. at FACT modulo 4, less 4". */
    static void clearOfToldByItsRow() {
        Jam j = Jam.withPot(TOLD, 9, 5);
        int[] row = {9, 0, 1, 4};
        for (int part = 0; part < 4; part++) {
            j.row(0, part, row[part]);
        }
        for (int fact = 0; fact < 8; fact++) {
            due(j.of(0, 10 + fact), 5 + row[fact % 4] - 4);
        }
        j.spoon(0, 0);
        for (int fact = 0; fact < 8; fact++) {
            due(j.of(0, 10 + fact), 4 - 2 + row[fact % 4] - 4);
        }
    }

    /** "if CLEAR is 4 or more, whether the FACT is of it (1, 0)"; 3 is nothing. */
    static void saysFrom4On() {
        Jam j = Jam.withPot(POT, 0, 4);
        due(j.of(0, 20), 0);
        j.world(1);
        due(j.of(0, 20), 1);
        due(j.of(0, 21), 0);
        j.sugar(0, 3);
        due(j.of(0, 20), SILENT);
        due(j.of(0, 21), SILENT);
    }

    /** "if CLEAR is below 0, the other way (0, 1)"; 0 is nothing. */
    static void saysTheOtherWayBelow0() {
        Jam j = Jam.withPot(POT, 0, 0);
        j.world(1);
        due(j.of(0, 20), SILENT);
        due(j.of(0, 21), SILENT);
        j.cellarOf("haze 1 f<9");
        due(j.of(0, 20), 0);
        due(j.of(0, 21), 1);
    }

    /** "else nothing (-5)": CLEAR from 0 to 3. */
    static void saysNothingFrom0To3() {
        Jam j = Jam.withPot(POT, 0, 0);
        for (int sugar = 0; sugar <= 9; sugar++) {
            j.sugar(0, sugar);
            due(j.of(0, 23), sugar < 4 ? SILENT : 0);
        }
    }

    /** "THE WORLD being as it is". */
    static void saysByTheWorldAsItIs() {
        Jam j = Jam.withPot(POT, 0, 9);
        for (int fact = 0; fact < 8; fact++) {
            j.world(1 << fact);
            due(j.of(0, 20 + fact), 1);
            j.world(255 - (1 << fact));
            due(j.of(0, 20 + fact), 0);
        }
    }

    /** WHEN: "the fewest TERMS (0 .. 60) behind which its CLEAR about that is 4 or more"; 0: it is already. */
    static void whenIs0AtOnce() {
        due(Jam.withPot(POT, 0, 4).of(0, 30), 0);
        due(Jam.withPot(POT, 0, 9).of(0, 37), 0);
    }

    /** The fewest TERMS, though it is so later, too. */
    static void whenIsTheFewest() {
        due(Jam.withPot(POT, 0, 3).of(0, 30), 5);
        due(Jam.withPot(POT, 0, 0).of(0, 30), 20);
        due(Jam.withPot(QUINCE, 9, 0).of(0, 30), 9);
        Jam j = Jam.withPot(POT, 0, 3);
        j.pass(3);
        due(j.of(0, 30), 2);
        j.cellarOf("keep 0;sweet 1 a=5|a=7");
        due(j.of(0, 30), 2);
    }

    /** 60 TERMS are looked at, and no more: "(-5: not by then)". */
    static void whenIs60AtMost() {
        Jam j = Jam.withPot(POT, 0, 3);
        j.cellarOf("keep 60");
        due(j.of(0, 30), 60);
        j.cellarOf("keep 61");
        due(j.of(0, 30), SILENT);
        j.pass(1);
        due(j.of(0, 30), 60);
        j.cellarOf("keep 0");
        due(j.of(0, 30), SILENT);
    }

    /** CLEAR below 0 is not enough for WHEN, though something is said. */
    static void whenIsNotByTheOtherWay() {
        Jam j = Jam.withPot(POT, 0, 0);
        j.cellarOf("haze 9 f<9;keep 0");
        due(j.of(0, 20), 1);
        due(j.of(0, 30), SILENT);
    }

    /** "goes on from how all is (TERMS, AGE beyond 9999, too)". */
    static void whenGoesOnBeyond9999() {
        Jam j = Jam.withPot(POT, 0, 0);
        j.passToTheLastTerm();
        due(j.of(0, 3), 9999);
        j.sugar(0, 3);
        due(j.of(0, 30), 1);
        j.cellarOf("keep 11");
        due(j.of(0, 30), 11);
        j.cellarOf("keep 0;sweet 9 a=3");
        due(j.of(0, 30), 4);
        due(j.told(0), 9999);
        due(j.of(0, 3), 9999);
    }

    /** SUGARS: all ten, if nothing is HEARD of it. */
    static void sugarsAreAllByNothingHeard() {
        Jam j = Jam.withPots(2, 0);
        due(j.of(0, 5), 1023);
        j.hear(1, 0, 1);
        due(j.of(0, 5), 1023);
        due(j.of(1, 5), 0);
    }

    /** "those numbers 0 .. 9, as bits", the first and the last of them, too. */
    static void sugarsAre0To9AsBits() {
        Jam j = Jam.withPot(POT, 0, 5);
        j.cellarOf("haze 9 s=0;sweet 1 s=3");
        j.hear(0, 0, 1);
        due(j.of(0, 5), 0b0000000001);
        j.world(1);
        due(j.of(0, 5), 0b1111111000);
        j.hear(-1, 0, 0);
        j.hear(0, 0, -1);
        due(j.of(0, 5), 0b0000000110);
        j.cellarOf("sweet 1 s=3;haze 7 !s=9;sweet 9 s<9");
        j.hear(-1, 0, 0);
        j.hear(0, 0, 1);
        due(j.of(0, 5), 0b1111111100);
        j.cellarOf("haze 9 s<9");
        due(j.of(0, 5), 0b1000000000);
    }

    /** All of HEARD that is of it has to be so; none may be left. */
    static void sugarsAreByAllOfHeard() {
        Jam j = Jam.withPots(2, 0);
        j.cellarOf("haze 2 f=1");
        j.world(1);
        j.hear(0, 1, -1);
        due(j.of(0, 5), 0b0000111100);
        j.hear(0, 0, 1);
        due(j.of(0, 5), 0b0000110000);
        j.hear(1, 0, 0);
        due(j.of(0, 5), 0b0000110000);
        j.hear(0, 1, 1);
        due(j.of(0, 5), 0);
    }

    /** SUGARS are by THE WORLD as it is, and by OPENED and AGE as they are. */
    static void sugarsAreByHowAllIs() {
        Jam j = Jam.withPot(BERRY, 0, 0);
        j.hear(0, 0, 0);
        due(j.of(0, 5), 0b1111110000);
        j.spoon(0, 0);
        due(j.of(0, 5), 0b1111000000);
        j.world(1);
        due(j.of(0, 5), 0b0000000011);
    }

    /** "what is asked changes nothing". */
    static void askedChangesNothing() {
        changesNothing(j -> {
            for (int what = -1; what <= 38; what++) {
                j.of(0, what);
                j.of(1, what);
                j.of(3, what);
            }
        });
    }
}
