/** Promise 9: cellar; and what is said of CELLARS, CLAUSES, TESTS and the FAULT. */
public final class Promise09CellarTest extends Sentences {
    private static final String TEN_CLAUSES = "keep 1" + ";keep 2".repeat(9);

    public static void main(String[] args) {
        run(Promise09CellarTest.class);
    }

    /** "-10 less the FAULT". */
    private static void fault(String text, int place) {
        Jam j = new Jam();
        due(j.cellarOf(text), -10 - place);
        due(j.count(5), 0);
        due(j.count(1), 0);
    }

    private static void good(String text) {
        Jam j = new Jam();
        due(j.cellarOf(text), 0);
        due(j.count(5), 0);
        due(j.count(1), 1);
    }

    /** Each sign behind a beginning: some make a CELLAR, some can go on, all others are the FAULT. */
    private static void eachSignBehind(String begin, String whole, String goesOn) {
        for (char sign = 0; sign < 128; sign++) {
            Jam j = new Jam();
            int want = -10 - begin.length();
            want = goesOn.indexOf(sign) >= 0 ? want - 1 : want;
            want = whole.indexOf(sign) >= 0 ? 0 : want;
            due(j.cellarOf(begin + sign), want);
        }
    }

    // ---- the FAULT

    /** "The FAULT: .. (the end of THE TEXT, if it ends too early)": nothing at all is too early. */
    static void faultOfNothingIs0() {
        fault("", 0);
    }

    /** "the place of the first byte with which none begins so". */
    static void faultIsTheFirstSignThatCantGoOn() {
        String text = "sweet 12 !(p<1|k=23)&v>4;haze 3 f=5;keep 67";
        good(text);
        for (int i = 0; i < text.length(); i++) {
            fault(text.substring(0, i) + "~" + text.substring(i + 1), i);
            fault(text.substring(0, i) + "\0" + text.substring(i + 1), i);
        }
        fault("x~x", 0);
        fault("sweat 1 q=1", 3);
    }

    /** "(the end of THE TEXT, if it ends too early)", wherever it ends. */
    static void faultIsTheEndIfItEndsTooEarly() {
        String[] whole = {"sweet 12 !(p<1|k=23)", "&v>4", ";haze 3 f=5", ";keep 6", "7"};
        String begin = "";
        for (String part : whole) {
            String later = begin + part;
            for (int end = begin.length() + 1; end < later.length(); end++) {
                fault(later.substring(0, end), end);
            }
            good(later);
            begin = later;
        }
    }

    /** A CLAUSE begins with one of three words. */
    static void faultInTheFirstSign() {
        eachSignBehind("", "", "shk");
        eachSignBehind("keep 1;", "", "shk");
    }

    /** One word does not go on as another, and capitals are none. */
    static void faultInAWord() {
        fault("swaze 1 p=1", 2);
        fault("hweet 1 p=1", 1);
        fault("haep 1", 2);
        fault("keet 1", 3);
        fault("kweep 1", 1);
        fault("sweep 1 p=1", 4);
        fault("sweets 1 p=1", 5);
        fault("Keep 1", 0);
        fault("keeP 1", 3);
        fault("sWeet 1 p=1", 1);
    }

    /** "one blank ahead of each part behind the word". */
    static void oneBlankAheadOfEachPart() {
        eachSignBehind("keep", "", " ");
        eachSignBehind("sweet", "", " ");
        eachSignBehind("haze", "", " ");
        eachSignBehind("sweet 12", "", " ");
        fault("keep1", 4);
        fault("sweet1 p=1", 5);
        fault("sweet 1p=1", 7);
        fault("haze 10p=1", 7);
    }

    /** Two blanks are one too many. */
    static void notTwoBlanks() {
        fault("keep  1", 5);
        fault("sweet  1 p=1", 6);
        fault("sweet 1  p=1", 8);
        fault("haze  1 p=1", 5);
    }

    /** No blank stands elsewhere. */
    static void noBlankElsewhere() {
        fault(" keep 1", 0);
        fault("keep 1 ", 6);
        fault("keep 1 ;keep 2", 6);
        fault("keep 1; keep 2", 7);
        fault("sweet 1 p =1", 9);
        fault("sweet 1 p= 1", 10);
        fault("sweet 1 p=1 ", 11);
        fault("sweet 1 p=1 &p=2", 11);
        fault("sweet 1 p=1& p=2", 12);
        fault("sweet 1 ! p=1", 9);
        fault("sweet 1 ( p=1)", 9);
        fault("sweet 1 (p=1 )", 12);
    }

    /** "n 1 or 2 digits": none is too few. */
    static void nHasADigit() {
        eachSignBehind("keep ", "0123456789", "");
        eachSignBehind("sweet ", "", "0123456789");
        eachSignBehind("haze ", "", "0123456789");
        fault("keep ;keep 1", 5);
        fault("sweet p=1", 6);
        fault("keep -1", 5);
    }

    /** "n 1 or 2 digits": three are too many. */
    static void nHasTwoDigitsAtMost() {
        good("keep 0");
        good("keep 99");
        good("keep 00");
        good("sweet 99 p=1");
        good("haze 09 p=1");
        fault("keep 100", 7);
        fault("keep 000", 7);
        fault("sweet 123 p=1", 8);
        fault("haze 123 p=1", 7);
        eachSignBehind("keep 1", "0123456789", ";");
        eachSignBehind("keep 12", "", ";");
        eachSignBehind("sweet 1", "", " 0123456789");
    }

    /** "CLAUSES, 1 to 10, with ; between". */
    static void clausesAre10AtMost() {
        good("keep 1");
        good(TEN_CLAUSES);
        fault(TEN_CLAUSES + ";keep 3", TEN_CLAUSES.length());
        fault(TEN_CLAUSES + ";", TEN_CLAUSES.length());
        fault(TEN_CLAUSES + ";x", TEN_CLAUSES.length());
        eachSignBehind(TEN_CLAUSES, "0123456789", "");
    }

    /** ; stands between, not ahead, behind, or twice. */
    static void onlyBetweenClauses() {
        fault(";", 0);
        fault(";keep 1", 0);
        fault("keep 1;", 7);
        fault("keep 1;;keep 2", 7);
        fault("keep 1,keep 2", 6);
        fault("sweet 1 p=1;", 12);
    }

    /** "sweet n E; haze n E": E has to be there. */
    static void sweetAndHazeHaveAnE() {
        fault("sweet 1", 7);
        fault("sweet 1 ", 8);
        fault("sweet 1;keep 1", 7);
        fault("sweet 1 ;keep 1", 8);
        fault("haze 12", 7);
        fault("haze 12 ", 8);
    }

    /** "keep n" has no E. */
    static void keepHasNoE() {
        fault("keep 1 p=1", 6);
        fault("keep 12 p=1", 7);
    }

    /** "F: !F, (E), or a TEST: a letter" of p, k, v, f, s, a. */
    static void faultInALetter() {
        eachSignBehind("sweet 1 ", "", "pkvfsa!(");
        eachSignBehind("sweet 1 !", "", "pkvfsa!(");
        eachSignBehind("sweet 1 (", "", "pkvfsa!(");
        eachSignBehind("sweet 1 p=1&", "", "pkvfsa!(");
        eachSignBehind("sweet 1 p=1|", "", "pkvfsa!(");
    }

    /** "< or = or >". */
    static void faultInASign() {
        for (char letter : "pkvfsa".toCharArray()) {
            eachSignBehind("haze 1 " + letter, "", "<=>");
        }
        fault("sweet 1 p<=1", 10);
        fault("sweet 1 p==1", 10);
        fault("sweet 1 p!=1", 9);
        fault("sweet 1 pk=1", 9);
    }

    /** "a number (1 or 2 digits)". */
    static void aTestHasOneOrTwoDigits() {
        eachSignBehind("sweet 1 p=", "0123456789", "");
        eachSignBehind("sweet 1 p=1", "0123456789", "&|;");
        eachSignBehind("sweet 1 p=12", "", "&|;");
        good("sweet 1 p<99");
        good("sweet 1 p>00");
        fault("sweet 1 p=100", 12);
        fault("sweet 1 p=", 10);
    }

    /** "(E)": what is opened is closed, once, and holds something. */
    static void whatIsOpenedIsClosed() {
        eachSignBehind("sweet 1 (p=1", ")", "&|0123456789");
        eachSignBehind("sweet 1 (p=12", ")", "&|");
        eachSignBehind("sweet 1 (p=1)", "", "&|;");
        fault("sweet 1 (p=1", 12);
        fault("sweet 1 (p=1;keep 1", 12);
        fault("sweet 1 ()", 9);
        fault("sweet 1 p=1)", 11);
        fault("sweet 1 (p=1))", 13);
        fault("sweet 1 ((p=1)", 14);
    }

    /** & and | stand between two, and ! ahead of one. */
    static void whatStandsBetweenAndAhead() {
        fault("sweet 1 &p=1", 8);
        fault("sweet 1 |p=1", 8);
        fault("sweet 1 p=1&", 12);
        fault("sweet 1 p=1|", 12);
        fault("sweet 1 p=1&&p=2", 12);
        fault("sweet 1 p=1||p=2", 12);
        fault("sweet 1 p=1&|p=2", 12);
        fault("sweet 1 p=1!", 11);
        fault("sweet 1 p=1!p=2", 11);
        fault("sweet 1 !", 9);
        fault("sweet 1 !&", 9);
        fault("sweet 1 p=1(p=2)", 11);
        fault("sweet 1 p=1p=2", 11);
    }

    /** "A ( or ! within 4 others is none": the fourth is one, the fifth is not. */
    static void fourWithinOneAnother() {
        good("sweet 1 ((((p=1))))");
        good("sweet 1 !!!!p=1");
        good("sweet 1 !(!(p=1))");
        good("sweet 1 (!(!p=1))");
        fault("sweet 1 (((((p=1)))))", 12);
        fault("sweet 1 !!!!!p=1", 12);
        fault("sweet 1 !(!(!p=1))", 12);
        fault("sweet 1 (!(!(p=1)))", 12);
        fault("sweet 1 ((((!p=1))))", 12);
        fault("sweet 1 !!!!(p=1)", 12);
    }

    /** It is within those only that are around it: neither those beside it nor those ahead. */
    static void besideOneAnotherIsNotWithin() {
        good("sweet 1 !p=1&!p=1&!p=1&!p=1&!p=1&(p=1)");
        good("sweet 1 (((p=1)&(p=2))|!(p=3))&((((p=4))))");
        good("sweet 1 !!!!p=1&!!!!p=2|!!!!p=3");
        good("sweet 1 ((((p=1))));haze 1 ((((p=1))))");
        good("sweet 1 !(!(p=1)|!(p=2))&!(!(p=3))");
        fault("sweet 1 p=1&(((!p=1&(p=2)&(!p=3))))", 27);
        fault("sweet 1 (((p=1&(p=1&(p=1)))))", 20);
        fault("sweet 1 ((((p=1|!p=2))))", 16);
    }

    // ---- what it does

    /** "THE TEXT, which is empty then, is a CELLAR, and holds: its number." */
    static void itsNumber() {
        Jam j = new Jam();
        for (int i = 0; i < 6; i++) {
            due(j.cellarOf("keep " + (20 + i)), i);
            due(j.count(5), 0);
            due(j.count(1), i + 1);
            due(j.told(1), 20 + i);
        }
    }

    /** "FULL: there are 6 (THE TEXT stays)". */
    static void sixAreFullAndTheTextStays() {
        Jam j = new Jam();
        for (int i = 0; i < 6; i++) {
            j.cellarOf("keep " + i);
        }
        j.feedAll("keep 9");
        due(j.cellar(), FULL);
        due(j.count(5), 6);
        due(j.count(1), 6);
        due(j.told(1), 5);
        due(j.cellar(), FULL);
        due(j.feed('9'), 7);
    }

    /** "the first that a call's words name": FULL, though THE TEXT has a FAULT or is empty. */
    static void fullGoesAheadOfTheFault() {
        Jam j = new Jam();
        for (int i = 0; i < 6; i++) {
            j.cellarOf("keep " + i);
        }
        due(j.cellar(), FULL);
        j.feedAll("x");
        due(j.cellar(), FULL);
        due(j.count(5), 1);
    }

    /** "-10 less the FAULT (the one that held holds)", THE TEXT being empty then, too. */
    static void byAFaultTheOneThatHeldHolds() {
        Jam j = Jam.withPot(POT, 0, 1);
        due(j.cellarOf("sweet 9 p=0;keep 7;"), -10 - 19);
        due(j.told(1), 5);
        due(j.of(0, 10), 1);
        due(j.cellarOf("sweet 3 p=0;keep 2"), 0);
        due(j.cellarOf("sweet 9 p=0;keep 8;x"), -10 - 19);
        due(j.count(5), 0);
        due(j.count(1), 1);
        due(j.told(1), 2);
        due(j.of(0, 10), 4);
        due(j.feed('k'), 1);
    }

    /** What was read ahead of a FAULT has no part in the next CELLAR. */
    static void nothingStaysOfAFault() {
        Jam j = Jam.withPot(POT, 0, 1);
        j.cellarOf("sweet 9 p=0;sweet 9 p=0;keep 7;x");
        due(j.cellarOf("haze 3 p=0"), 0);
        due(j.of(0, 10), -2);
        due(j.told(1), 5);
    }

    /** A FAULT takes no number and no room. */
    static void faultsAreNotCounted() {
        Jam j = new Jam();
        for (int i = 0; i < 10; i++) {
            due(j.cellarOf("x"), -10);
        }
        for (int i = 0; i < 6; i++) {
            due(j.cellarOf("keep 1"), i);
            due(j.cellar(), i < 5 ? -10 : FULL);
        }
    }

    /** "The newest CELLAR holds (6 at most)", and none of those ahead of it. */
    static void onlyTheNewestHolds() {
        Jam j = Jam.withPot(POT, 0, 1);
        for (int i = 0; i < 6; i++) {
            j.cellarOf("sweet " + (10 + i) + " f=" + i);
            for (int fact = 0; fact < 8; fact++) {
                due(j.of(0, 10 + fact), fact == i ? 11 + i : 1);
            }
        }
    }

    /** "KEEP (5 without): the last one's n". */
    static void keepIsTheLastOnes() {
        Jam j = new Jam();
        j.cellarOf("keep 3;sweet 1 p=0;keep 8;haze 1 p=0");
        due(j.told(1), 8);
        j.cellarOf("keep 9;keep 0");
        due(j.told(1), 0);
        j.cellarOf("keep 99");
        due(j.told(1), 99);
        j.cellarOf("keep 07");
        due(j.told(1), 7);
    }

    /** "KEEP (5 without)", though the CELLAR that held had one. */
    static void keepIs5Without() {
        Jam j = new Jam();
        j.cellarOf("keep 9");
        j.cellarOf("sweet 1 p=0");
        due(j.told(1), 5);
    }

    /** THE TEXT may be 100 bytes long; its end is place 100. */
    static void aTextOf100Bytes() {
        String begin = "sweet 8 " + "p<9&".repeat(22) + "p<9";
        Jam j = Jam.withPot(POT, 0, 1);
        j.feedAll(begin + "9");
        due(j.count(5), 100);
        due(j.cellar(), 0);
        due(j.of(0, 10), 9);
        fault(begin + "&", 100);
        fault(begin + "~", 99);
    }

    // ---- what it means

    /** CLEAR of POT 1, a QUINCE with v 2, SUGAR 5 and AGE 14, is 7, and 50 more if E holds. */
    private static void holds(String e, int fact, boolean want) {
        Jam j = new Jam();
        j.pot(POT, 1, 1);
        j.pot(QUINCE, 2, 5);
        j.cellarOf("keep 0");
        j.pass(14);
        due(j.cellarOf("sweet 50 " + e), 1);
        due(j.of(1, 10 + fact), want ? 57 : 7);
    }

    /** A letter with a number below it, it, and above it. */
    private static void isJust(char letter, int n, int fact) {
        for (int other = n - 1; other <= n + 1; other++) {
            if (other >= 0) {
                holds(letter + "<" + other, fact, n < other);
                holds(letter + "=" + other, fact, n == other);
                holds(letter + ">" + other, fact, n > other);
            }
        }
    }

    /** "p the number of the one". */
    static void letterP() {
        isJust('p', 1, 0);
    }

    /** "k its KIND". */
    static void letterK() {
        isJust('k', QUINCE, 0);
    }

    /** "v its v". */
    static void letterV() {
        isJust('v', 2, 0);
    }

    /** "f the number of the other". */
    static void letterF() {
        isJust('f', 0, 0);
        isJust('f', 6, 6);
        isJust('f', 7, 7);
    }

    /** "s SUGAR". */
    static void letterS() {
        isJust('s', 5, 0);
    }

    /** "a AGE modulo 10". */
    static void letterAIsModulo10() {
        isJust('a', 4, 0);
        holds("a=14", 0, false);
        holds("a<10", 0, true);
        Jam j = Jam.withPot(POT, 0, 0);
        j.cellarOf("sweet 20 a=0;sweet 40 a=9;keep 0");
        due(j.of(0, 10), 20);
        j.pass(9);
        due(j.of(0, 10), 40);
        j.pass(1);
        due(j.of(0, 10), 20);
        j.pass(60);
        due(j.of(0, 10), 20);
    }

    /** Numbers of two digits: a 0 ahead, and those beyond what can be. */
    static void numbersOfTwoDigits() {
        holds("p=01", 0, true);
        holds("p<10", 0, true);
        holds("p=10", 0, false);
        holds("p>10", 0, false);
        holds("p<99", 0, true);
        holds("p>00", 0, true);
    }

    /** "E: T or T|E. T: F or F&T." */
    static void andBindsMoreThanOr() {
        holds("p=1|p=2&p=3", 0, true);
        holds("p=3&p=2|p=1", 0, true);
        holds("(p=1|p=2)&p=3", 0, false);
        holds("p=3&(p=2|p=1)", 0, false);
        holds("p=2|p=1&p=1", 0, true);
        holds("p=2|p=2|p=1", 0, true);
        holds("p=1|p=2|p=2", 0, true);
        holds("p=2|p=3", 0, false);
        holds("p=1&p<2&p>0", 0, true);
        holds("p=1&p=1&p=2", 0, false);
        holds("p=2&p=1&p=1", 0, false);
    }

    /** "F: !F": ! is of the next F alone. */
    static void notIsOfTheNextAlone() {
        holds("!p=1", 0, false);
        holds("!p=2", 0, true);
        holds("!!p=1", 0, true);
        holds("!!!p=1", 0, false);
        holds("!!!!p=1", 0, true);
        holds("!p=1|p=1", 0, true);
        holds("!p=2&p=1", 0, true);
        holds("!p=2&p=2", 0, false);
        holds("!(p=2&p=2)", 0, true);
        holds("!(p=1|p=2)", 0, false);
        holds("!(p=1&!(p=2))", 0, false);
    }

    /** "SUM .. : SUGAR, and the n of all sweet whose E holds, less those of all haze, together". */
    static void sumIsOfAllTogether() {
        Jam j = Jam.withPot(POT, 0, 2);
        j.cellarOf("sweet 20 p=0;haze 3 f=1;sweet 4 f<2;haze 99 p=1;keep 3;haze 50 f=3");
        due(j.of(0, 10), 26);
        due(j.of(0, 11), 23);
        due(j.of(0, 12), 22);
        due(j.of(0, 13), -28);
    }

    /** All ten CLAUSES count; n may be 0 and 99. */
    static void sumOfTheMost() {
        Jam j = Jam.withPot(POT, 0, 9);
        j.cellarOf("sweet 99 p=0" + ";sweet 99 p=0".repeat(6));
        due(j.of(0, 10), 9 + 7 * 99);
        j.cellarOf("haze 99 p=0" + ";haze 99 p=0".repeat(7));
        due(j.of(0, 10), 9 - 8 * 99);
        j.cellarOf("haze 0 p=0;sweet 00 p=0");
        due(j.of(0, 10), 9);
        j.cellarOf("keep 1;".repeat(8) + "haze 9 p=0;sweet 1 p=0");
        due(j.of(0, 10), 1);
    }

    /** "What is answered so changes nothing", but for THE TEXT, which a FAULT makes empty. */
    static void fullChangesNothing() {
        changesNothing(j -> {
            j.cellar();
            for (int i = 0; i < 4; i++) {
                j.cellarOf("keep " + i);
            }
            j.feedAll("keep ");
        }, j -> due(j.cellar(), FULL));
    }
}
