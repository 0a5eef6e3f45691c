/** The promises of the document one by one, with answers worked out by hand. */
public final class PromiseTest {
    private static final int NONE = -1, BAD = -2, STATE = -3, FULL = -4, NO_SUCH = -10001;
    private static final int NOTHING = -11, CAST = -12, PLACE = -13, SIZE = -14;
    private static final int POT = 0, DAMSON = 1, PLUM = 2, BERRY = 3, QUINCE = 4, WASP = 5, TOLD = 6;
    private static final int LOW = Integer.MIN_VALUE, HIGH = Integer.MAX_VALUE;
    private static final long NO = Long.MIN_VALUE;
    private static int wrong = 0;
    private static int checks = 0;
    private static String part = "";

    private static void due(String call, long got, long want) {
        checks++;
        if (got != want) {
            wrong++;
            System.out.println(part + ": " + call + " answered " + got + ", due is " + want);
        }
    }

    public static void main(String[] args) {
        newObject();
        pot();
        ofTraits();
        ofClear();
        ofSays();
        ofWhen();
        ofSugars();
        world();
        sugar();
        spoon();
        row();
        feed();
        cellarFaults();
        cellarLimits();
        cellarMeaning();
        cellarHolds();
        toldPlain();
        toldFits();
        toldNext();
        toldFound();
        pass();
        passToTheEnd();
        on();
        enough();
        own();
        hear();
        can();
        odds();
        mean();
        plan();
        ends();
        book();
        looked();
        judge();
        imageAndUndo();
        undoLeaves();
        undonePotsAreGone();
        act();
        actWraps();
        trace();
        taken();
        count();
        tape();
        item();
        read();
        shift();
        askingChangesNothing();
        System.out.println("PromiseTest: " + checks + " answers looked at, " + wrong + " not as due");
        if (wrong != 0) {
            System.exit(1);
        }
    }

    private static JamOath begin(String name) {
        part = name;
        return new JamOath();
    }

    private static void write(JamOath j, String text) {
        for (int i = 0; i < text.length(); i++) {
            j.feed(text.charAt(i));
        }
    }

    private static int cellar(JamOath j, String text) {
        write(j, text);
        return j.cellar();
    }

    private static void newObject() {
        JamOath j = begin("1 new object");
        for (int what = 0; what <= 6; what++) {
            due("count(" + what + ")", j.count(what), 0);
        }
        due("told(0)", j.told(0), 0);
        due("told(1)", j.told(1), 5);
        due("told(2)", j.told(2), 0);
        due("undo()", j.undo(), STATE);
        due("read(0, 0)", j.read(0, 0), NO);
        due("trace(0)", j.trace(0), NONE);
    }

    private static void pot() {
        JamOath j = begin("2 pot");
        due("pot(-1, 10, 0)", j.pot(-1, 10, 0), NONE);
        due("pot(7, 0, 0)", j.pot(7, 0, 0), NONE);
        due("pot(LOW, 0, 0)", j.pot(LOW, 0, 0), NONE);
        due("pot(0, -1, 0)", j.pot(0, -1, 0), BAD);
        due("pot(0, 10, 0)", j.pot(0, 10, 0), BAD);
        due("pot(0, 0, -1)", j.pot(0, 0, -1), BAD);
        due("pot(0, 0, HIGH)", j.pot(0, 0, HIGH), BAD);
        due("count(0)", j.count(0), 0);
        for (int i = 0; i < 6; i++) {
            due("pot", j.pot(6 - i, i, 9 - i), i);
        }
        due("a seventh", j.pot(0, 0, 0), FULL);
        due("a seventh of no kind", j.pot(9, 0, 0), NONE);
        due("a seventh with v 11", j.pot(0, 11, 0), BAD);
        due("count(0)", j.count(0), 6);
        due("of(2, 0)", j.of(2, 0), QUINCE);
        due("of(2, 1)", j.of(2, 1), 2);
        due("of(2, 2)", j.of(2, 2), 7);
    }

    private static void ofTraits() {
        JamOath j = begin("3 of");
        due("of(0, 0)", j.of(0, 0), NO_SUCH);
        j.pot(WASP, 4, 6);
        j.pass(7);
        j.spoon(0, 0);
        j.spoon(0, 0);
        due("of(0, 0)", j.of(0, 0), WASP);
        due("of(0, 1)", j.of(0, 1), 4);
        due("of(0, 2)", j.of(0, 2), 5);
        due("of(0, 3)", j.of(0, 3), 7);
        due("of(0, 4)", j.of(0, 4), 2);
        for (int what : new int[] {-1, 6, 7, 8, 9, 18, 19, 28, 29, 38, 39, 40, 47, 110, LOW, HIGH}) {
            due("of(0, " + what + ")", j.of(0, what), NO_SUCH);
        }
        due("of(-1, 0)", j.of(-1, 0), NO_SUCH);
        due("of(1, 0)", j.of(1, 0), NO_SUCH);
        due("of(HIGH, 0)", j.of(HIGH, 0), NO_SUCH);
        due("of(LOW, 0)", j.of(LOW, 0), NO_SUCH);
    }

    private static void ofClear() {
        JamOath j = begin("3 of, CLEAR");
        j.pot(POT, 9, 7);
        j.pot(DAMSON, 9, 7);
        j.pot(PLUM, 9, 7);
        j.pot(BERRY, 9, 7);
        j.pot(QUINCE, 3, 7);
        j.pot(WASP, 9, 7);
        int[] even = {7, 16, 3, 7, 0, 3};
        int[] odd = {7, 16, 3, 7, 0, -3};
        for (int p = 0; p < 6; p++) {
            due("of(" + p + ", 14)", j.of(p, 14), even[p]);
            due("of(" + p + ", 17)", j.of(p, 17), odd[p]);
        }
        j.spoon(3, 0);
        j.spoon(3, 0);
        due("BERRY, opened twice", j.of(3, 10), 5 - 4);
        j.pass(2);
        due("QUINCE, too young", j.of(4, 10), 0);
        j.pass(1);
        due("QUINCE, as old as v", j.of(4, 10), 10);
        cellar(j, "haze 8 f=0;haze 9 f=1");
        due("PLUM, the half of -1 cut toward 0", j.of(2, 10), 0);
        due("PLUM, the half of -2", j.of(2, 11), -1);
        due("WASP, the half of -1", j.of(5, 10), 0);
        due("WASP, the half of -2, less 6", j.of(5, 11), -7);
        due("BERRY below 0", j.of(3, 10), 5 - 8 - 4);
        JamOath t = new JamOath();
        t.pot(TOLD, 1, 5);
        t.row(0, 0, 9);
        t.row(0, 3, 2);
        t.spoon(0, 0);
        int[] rows = {9, 0, 0, 2};
        for (int f = 0; f < 8; f++) {
            due("TOLD about " + f, t.of(0, 10 + f), 4 - 2 + rows[f % 4] - 4);
        }
    }

    private static void ofSays() {
        JamOath j = begin("3 of, SAYS");
        j.pot(POT, 0, 4);
        cellar(j, "haze 1 f=1;haze 4 f=2;haze 5 f>2");
        j.world(0b00101101);
        int[] due = {1, -5, -5, 0, 1, 0, 1, 1};
        for (int f = 0; f < 8; f++) {
            due("of(0, " + (20 + f) + ")", j.of(0, 20 + f), due[f]);
        }
        j.world(0);
        due("of(0, 20)", j.of(0, 20), 0);
        due("of(0, 23)", j.of(0, 23), 1);
    }

    private static void ofWhen() {
        JamOath j = begin("3 of, WHEN");
        j.pot(POT, 0, 4);
        j.pot(POT, 0, 3);
        j.pot(POT, 0, 0);
        j.pot(QUINCE, 9, 0);
        due("at once", j.of(0, 30), 0);
        due("by one more SUGAR", j.of(1, 37), 5);
        due("by four more", j.of(2, 30), 20);
        due("QUINCE", j.of(3, 30), 9);
        j.pass(3);
        due("from AGE 3 on", j.of(1, 30), 2);
        cellar(j, "keep 0");
        due("never", j.of(1, 30), -5);
        cellar(j, "keep 60;haze 5 a<8");
        due("only by a later AGE modulo 10", j.of(0, 31), 5);
        JamOath k = new JamOath();
        k.pot(POT, 0, 3);
        cellar(k, "keep 60");
        due("just by then", k.of(0, 30), 60);
        cellar(k, "keep 61");
        due("not by then", k.of(0, 30), -5);
        cellar(k, "keep 60;haze 9 f<9");
        due("below 0 is not enough", k.of(0, 30), -5);
    }

    private static void ofSugars() {
        JamOath j = begin("3 of, SUGARS");
        j.pot(POT, 0, 0);
        j.pot(POT, 0, 0);
        cellar(j, "haze 2 f=1;sweet 3 s=0&f=0");
        j.world(1);
        due("nothing HEARD", j.of(0, 5), 1023);
        j.hear(1, 0, 1);
        due("HEARD of another", j.of(0, 5), 1023);
        due("says 1 about what is so", j.of(1, 5), 0b1111110000);
        j.hear(0, 1, 1);
        due("the other way", j.of(0, 5), 0b11);
        j.hear(-1, 0, 0);
        j.hear(0, 1, -1);
        due("nothing", j.of(0, 5), 0b111100);
        j.hear(0, 0, -1);
        due("both", j.of(0, 5), 0b001100);
        j.hear(0, 0, 1);
        due("none", j.of(0, 5), 0);
        due("SUGAR stays", j.of(0, 2), 0);
    }

    private static void world() {
        JamOath j = begin("4 world");
        due("world(255)", j.world(255), 0);
        due("world(7)", j.world(7), 255);
        due("world(256)", j.world(256), BAD);
        due("world(-1)", j.world(-1), BAD);
        due("world(LOW)", j.world(LOW), BAD);
        due("world(0)", j.world(0), 7);
        due("told(2)", j.told(2), 0);
    }

    private static void sugar() {
        JamOath j = begin("5 sugar");
        due("sugar(0, 10)", j.sugar(0, 10), NONE);
        j.pot(POT, 0, 3);
        due("sugar(0, 9)", j.sugar(0, 9), 3);
        due("sugar(0, 0)", j.sugar(0, 0), 9);
        due("sugar(0, 10)", j.sugar(0, 10), BAD);
        due("sugar(0, -1)", j.sugar(0, -1), BAD);
        due("sugar(1, 0)", j.sugar(1, 0), NONE);
        due("sugar(-1, 0)", j.sugar(-1, 0), NONE);
        due("of(0, 2)", j.of(0, 2), 0);
    }

    private static void spoon() {
        JamOath j = begin("6 spoon");
        due("spoon(0, 0)", j.spoon(0, 0), NO_SUCH);
        j.pot(POT, 0, 5);
        j.world(2);
        due("spoon(0, 8)", j.spoon(0, 8), NO_SUCH);
        due("spoon(0, -1)", j.spoon(0, -1), NO_SUCH);
        due("spoon(1, 0)", j.spoon(1, 0), NO_SUCH);
        due("not opened", j.of(0, 4), 0);
        due("spoon(0, 1)", j.spoon(0, 1), 1);
        due("spoon(0, 0)", j.spoon(0, 0), 0);
        due("less sugar, nothing", j.spoon(0, 1), -5);
        due("OPENED", j.of(0, 4), 3);
        due("SUGAR", j.of(0, 2), 2);
        for (int i = 0; i < 8; i++) {
            j.spoon(0, 0);
        }
        due("OPENED, 9 at most", j.of(0, 4), 9);
        due("SUGAR, 0 at least", j.of(0, 2), 0);
    }

    private static void row() {
        JamOath j = begin("7 row");
        due("row(0, 0, 0)", j.row(0, 0, 0), NONE);
        j.pot(BERRY, 0, 0);
        j.pot(TOLD, 0, 0);
        due("row(1, 3, 7)", j.row(1, 3, 7), 0);
        due("row(1, 3, 9)", j.row(1, 3, 9), 7);
        due("row(1, 0, 1)", j.row(1, 0, 1), 0);
        due("row(1, 4, 10)", j.row(1, 4, 10), NONE);
        due("row(1, -1, 1)", j.row(1, -1, 1), NONE);
        due("row(2, 0, 1)", j.row(2, 0, 1), NONE);
        due("row(0, 0, 10)", j.row(0, 0, 10), BAD);
        due("row(1, 0, -1)", j.row(1, 0, -1), BAD);
        due("row(0, 0, 1)", j.row(0, 0, 1), STATE);
        due("row(1, 3, 0)", j.row(1, 3, 0), 9);
    }

    private static void feed() {
        JamOath j = begin("8 feed");
        due("feed(-1)", j.feed(-1), BAD);
        due("feed(128)", j.feed(128), BAD);
        due("feed(LOW)", j.feed(LOW), BAD);
        for (int i = 1; i <= 100; i++) {
            due("feed", j.feed(i % 2 == 0 ? 0 : 127), i);
        }
        due("one more", j.feed(0), FULL);
        due("one more, of no sign", j.feed(128), BAD);
        due("count(5)", j.count(5), 100);
    }

    private static void fault(JamOath j, String text, int place) {
        due("cellar() of " + text, cellar(j, text), -10 - place);
        due("count(5)", j.count(5), 0);
    }

    private static void cellarFaults() {
        JamOath j = begin("9 cellar, FAULT");
        fault(j, "", 0);
        fault(j, "x", 0);
        fault(j, "\0", 0);
        fault(j, " keep 1", 0);
        fault(j, "sw", 2);
        fault(j, "sweat 1 p=1", 3);
        fault(j, "hazy 1 p=1", 3);
        fault(j, "keep", 4);
        fault(j, "keep1", 4);
        fault(j, "keep ", 5);
        fault(j, "keep  1", 5);
        fault(j, "keep 100", 7);
        fault(j, "keep 1 ", 6);
        fault(j, "keep 1;", 7);
        fault(j, "keep 1;;", 7);
        fault(j, "keep 1; keep 2", 7);
        fault(j, "sweet 1", 7);
        j = begin("9 cellar, FAULT");
        fault(j, "sweet 1 ", 8);
        fault(j, "sweet 1;", 7);
        fault(j, "sweet 1 p", 9);
        fault(j, "sweet 1 p!", 9);
        fault(j, "sweet 1 p=", 10);
        fault(j, "sweet 1 p=x", 10);
        fault(j, "sweet 1 p=100", 12);
        fault(j, "sweet 1 p=1)", 11);
        fault(j, "sweet 1 (p=1", 12);
        fault(j, "sweet 1 (p=1;", 12);
        fault(j, "sweet 1 ()", 9);
        fault(j, "sweet 1 p=1&", 12);
        fault(j, "sweet 1 p=1&|", 12);
        j = begin("9 cellar, FAULT");
        fault(j, "sweet 1 p=1||", 12);
        fault(j, "sweet 1 p=1!", 11);
        fault(j, "sweet 1 q=1", 8);
        fault(j, "sweet 1 =1", 8);
        fault(j, "sweet 1 p1", 9);
        fault(j, "sweet 1 !", 9);
        fault(j, "sweet 1 !!!!!p=1", 12);
        fault(j, "sweet 1 !(!(!p=1))", 12);
        fault(j, "sweet 1 p=1&((((!p=1))))", 16);
        due("count(1)", j.count(1), 0);
        due("told(1)", j.told(1), 5);
    }

    private static void cellarLimits() {
        JamOath j = begin("9 cellar, limits");
        due("4 within one another", cellar(j, "sweet 1 !(p=1|(!p=2)&!(p=3))"), 0);
        String ten = "keep 1;keep 2;keep 3;keep 4;keep 5;keep 6;keep 7;keep 8;keep 9;keep 10";
        due("10 CLAUSES", cellar(j, ten), 1);
        due("told(1)", j.told(1), 10);
        fault(j, ten + ";keep 11", ten.length());
        fault(j, ten + ";", ten.length());
        due("told(1)", j.told(1), 10);
        due("n of 2 digits", cellar(j, "keep 07"), 2);
        due("told(1)", j.told(1), 7);
        JamOath k = begin("9 cellar, FULL");
        for (int i = 0; i < 6; i++) {
            due("cellar", cellar(k, "keep " + i), i);
        }
        write(k, "kee");
        due("a seventh", k.cellar(), FULL);
        due("THE TEXT stays", k.count(5), 3);
        due("told(1)", k.told(1), 5);
        due("count(1)", k.count(1), 6);
        JamOath w = begin("9 cellar, 100 bytes");
        StringBuilder text = new StringBuilder("sweet 10 p=00");
        while (text.length() < 97) {
            text.append("&p=0");
        }
        text.append("|p=1", 0, 100 - text.length());
        write(w, text.toString());
        due("count(5)", w.count(5), 100);
        due("cellar()", w.cellar(), -10 - 100);
        text.setLength(97);
        due("cellar()", cellar(w, text.toString()), 0);
        w.pot(POT, 0, 0);
        due("of(0, 10)", w.of(0, 10), 10);
    }

    /** CLEAR of a POT about a FACT by a sweet 50 with that E, less its SUGAR. */
    private static void holds(String e, int fact, boolean want) {
        JamOath j = new JamOath();
        j.pot(POT, 1, 1);
        j.pot(QUINCE, 2, 3);
        j.pass(14);
        due("cellar of " + e, cellar(j, "sweet 50 " + e + ";keep 0"), 0);
        due(e + " about " + fact, j.of(1, 10 + fact), 3 + 2 + 2 + (want ? 50 : 0));
    }

    private static void cellarMeaning() {
        begin("9 cellar, TESTS");
        holds("p=1", 0, true);
        holds("p>1", 0, false);
        holds("p<2", 0, true);
        holds("k=4", 0, true);
        holds("k<4", 0, false);
        holds("v=2", 0, true);
        holds("v>2", 0, false);
        holds("f=6", 6, true);
        holds("f=6", 5, false);
        holds("f>5", 6, true);
        holds("s=5", 0, true);
        holds("s<5", 0, false);
        holds("a=4", 0, true);
        holds("a=14", 0, false);
        holds("a<10", 0, true);
        holds("p=01", 0, true);
        holds("!p=1", 0, false);
        holds("!!p=1", 0, true);
        holds("p=1|p=2&p=3", 0, true);
        holds("p=3&p=2|p=1", 0, true);
        holds("(p=1|p=2)&p=3", 0, false);
        holds("p=3&(p=2|p=1)", 0, false);
        holds("!p=1|p=1", 0, true);
        holds("!(p=1|p=1)", 0, false);
        holds("!p=2&p=1", 0, true);
        holds("p=1|p=1|p=2", 0, true);
        holds("p=2|p=2|p=1", 0, true);
        holds("p=1&p=1&p=2", 0, false);
        holds("p=1&p<2&p>0", 0, true);
        holds("!(p=1&!(p=2))", 0, false);
        JamOath j = new JamOath();
        j.pot(POT, 0, 2);
        cellar(j, "sweet 20 p=0;haze 3 f=1;sweet 4 f<2;haze 99 p=1;keep 3;keep 8");
        due("of(0, 10)", j.of(0, 10), 26);
        due("of(0, 11)", j.of(0, 11), 23);
        due("of(0, 12)", j.of(0, 12), 22);
        due("the last keep", j.told(1), 8);
    }

    private static void cellarHolds() {
        JamOath j = begin("9 cellar, holds");
        j.pot(POT, 0, 1);
        due("cellar 0", cellar(j, "sweet 3 p=0;keep 2"), 0);
        due("of(0, 10)", j.of(0, 10), 4);
        fault(j, "sweet 9 p=0;x", 12);
        due("the one that held holds", j.of(0, 10), 4);
        due("told(1)", j.told(1), 2);
        due("cellar 1", cellar(j, "sweet 5 p=0"), 1);
        due("the newest holds", j.of(0, 10), 6);
        due("and has no keep", j.told(1), 5);
        due("count(1)", j.count(1), 2);
    }

    private static void toldPlain() {
        JamOath j = begin("10 told");
        j.pass(4);
        j.world(9);
        due("told(0)", j.told(0), 4);
        due("told(1)", j.told(1), 5);
        due("told(2)", j.told(2), 9);
        for (int what : new int[] {-1, 8, 9, 18, 20, LOW, HIGH}) {
            due("told(" + what + ")", j.told(what), NO_SUCH);
        }
    }

    private static void toldFits() {
        JamOath j = begin("10 told, FITS");
        j.pot(POT, 0, 5);
        j.pot(WASP, 0, 5);
        j.hear(0, 2, 1);
        due("how many", j.told(3), 128);
        due("the least", j.told(4), 4);
        due("SURE", j.told(5), 4);
        due("NEVER", j.told(6), 0);
        j.hear(1, 1, 1);
        due("the other way: how many", j.told(3), 64);
        due("the least", j.told(4), 4);
        due("SURE", j.told(5), 4);
        due("NEVER", j.told(6), 2);
        j.hear(1, 0, -1);
        due("nothing, as it does", j.told(3), 64);
        j.hear(0, 2, 1);
        due("the same again", j.told(3), 64);
        j.hear(0, 1, 1);
        due("against the other", j.told(3), 0);
        due("the least", j.told(4), -5);
        due("SURE", j.told(5), 0);
        due("NEVER", j.told(6), 255);
        due("NEXT", j.told(7), -5);
        j.hear(-1, 0, 0);
        j.hear(0, 0, -1);
        due("nothing, but it would say", j.told(3), 0);
        j.hear(-1, 0, 0);
        j.hear(1, 0, 0);
        due("it would say nothing", j.told(3), 0);
        j.sugar(1, 8);
        due("as it is now", j.told(3), 128);
        due("THE WORLD has no part in it", j.world(255), 0);
        due("how many", j.told(3), 128);
        due("NEVER", j.told(6), 1);
    }

    private static void toldNext() {
        JamOath j = begin("10 told, NEXT");
        due("no POTS", j.told(7), -5);
        j.pot(POT, 0, 0);
        due("nothing said at all", j.told(7), 0);
        j.pot(WASP, 0, 0);
        due("the first that halves", j.told(7), 11);
        j.hear(1, 1, 1);
        due("that is known", j.told(7), 13);
        j.sugar(0, 4);
        due("an earlier POT", j.told(7), 0);
        j.hear(0, 0, 1);
        due("its next FACT", j.told(7), 2);
        j.hear(0, 2, 1);
        j.hear(0, 3, 1);
        j.hear(0, 4, 1);
        j.hear(0, 5, 0);
        due("told(3)", j.told(3), 4);
        due("told(7)", j.told(7), 6);
        j.sugar(0, 0);
        j.hear(-1, 0, 0);
        cellar(j, "haze 9 p=0&f=7");
        due("the other way halves, too", j.told(7), 7);
    }

    private static void toldFound() {
        JamOath j = begin("10 told, FOUND");
        j.pot(POT, 0, 7);
        j.pot(WASP, 0, 4);
        j.pot(POT, 0, 3);
        j.world(2);
        due("says 1; the other way 0; nothing", j.told(11), 7 - 4);
        due("says 0; nothing; nothing", j.told(10), -7);
        j.world(0);
        due("says 0; the other way 1; nothing", j.told(11), -7 + 4);
        due("told(17)", j.told(17), -7 + 4);
    }

    private static void pass() {
        JamOath j = begin("11 pass");
        j.pot(POT, 0, 0);
        due("pass(0)", j.pass(0), 0);
        due("pass(-1)", j.pass(-1), BAD);
        due("pass(61)", j.pass(61), BAD);
        due("pass(HIGH)", j.pass(HIGH), BAD);
        due("pass(4)", j.pass(4), 4);
        due("SUGAR", j.of(0, 2), 0);
        due("pass(1)", j.pass(1), 5);
        due("SUGAR", j.of(0, 2), 1);
        j.pot(POT, 0, 0);
        due("pass(5)", j.pass(5), 10);
        due("SUGAR by its own AGE", j.of(1, 2), 1);
        due("AGE", j.of(1, 3), 5);
        due("pass(60)", j.pass(60), 70);
        due("SUGAR, 9 at most", j.of(0, 2), 9);
        j.sugar(0, 0);
        cellar(j, "keep 0");
        due("pass(60)", j.pass(60), 130);
        due("none by keep 0", j.of(0, 2), 0);
        cellar(j, "keep 1");
        due("pass(3)", j.pass(3), 133);
        due("each TERM by keep 1", j.of(0, 2), 3);
        due("AGE", j.of(0, 3), 133);
    }

    private static void passToTheEnd() {
        JamOath j = begin("11 pass, 9999");
        j.pot(POT, 0, 0);
        for (int i = 0; i < 166; i++) {
            j.pass(60);
        }
        due("told(0)", j.told(0), 9960);
        due("pass(40)", j.pass(40), STATE);
        due("pass(61)", j.pass(61), BAD);
        due("pass(38)", j.pass(38), 9998);
        due("pass(2)", j.pass(2), STATE);
        due("AGE", j.of(0, 3), 9998);
        due("pass(1)", j.pass(1), 9999);
        due("pass(1)", j.pass(1), STATE);
        due("pass(0)", j.pass(0), 9999);
        due("AGE", j.of(0, 3), 9999);
        j.sugar(0, 0);
        due("asked, AGE goes beyond 9999", j.on(1, 10), 1);
        due("and on", j.on(5, 10), 1);
        due("and on", j.on(6, 10), 2);
        due("WHEN", j.of(0, 30), 16);
        j.plan(0, 0);
        due("ENDS", j.ends(0), 1);
        due("MEAN", j.mean(11, 0), 3);
        j.pot(QUINCE, 9, 9);
        due("a new one is of AGE 0", j.of(1, 3), 0);
        due("told(0)", j.told(0), 9999);
    }

    private static void on() {
        JamOath j = begin("12 on");
        due("on(0, 0)", j.on(0, 0), 0);
        due("on(0, 10)", j.on(0, 10), NO_SUCH);
        j.pot(POT, 0, 3);
        j.pot(WASP, 0, 9);
        j.world(1);
        due("on(0, 0)", j.on(0, 0), 12);
        due("on(5, 0)", j.on(5, 0), 13);
        due("on(60, 0)", j.on(60, 0), 18);
        due("on(4, 10)", j.on(4, 10), 3);
        due("on(5, 10)", j.on(5, 10), 4);
        due("on(60, 11)", j.on(60, 11), 9);
        due("on(4, 20)", j.on(4, 20), -5);
        due("on(5, 20)", j.on(5, 20), 1);
        due("on(0, 21)", j.on(0, 21), 1);
        j.world(254);
        due("on(5, 20)", j.on(5, 20), 0);
        for (int what : new int[] {-1, 1, 9, 12, 15, 16, 19, 22, 26, 30, 31, LOW, HIGH}) {
            due("on(0, " + what + ")", j.on(0, what), NO_SUCH);
        }
        due("on(61, 12)", j.on(61, 12), NO_SUCH);
        due("on(61, 0)", j.on(61, 0), BAD);
        due("on(-1, 10)", j.on(-1, 10), BAD);
        due("on(LOW, 21)", j.on(LOW, 21), BAD);
        due("nothing went", j.told(0), 0);
        due("of(0, 2)", j.of(0, 2), 3);
    }

    private static void enough() {
        JamOath j = begin("13 cases, ENOUGH");
        due("none needed", j.cases(0, 0), 0);
        due("no POTS", j.cases(1, 0), -5);
        j.pot(POT, 0, 0);
        j.pot(POT, 0, 0);
        j.pot(POT, 0, 0);
        j.pot(POT, 0, 0);
        cellar(j, "sweet 9 p=0&f<2;haze 9 p=1&f>0&f<4;sweet 9 p=2&f>1&f<6;sweet 9 p=3&f<4");
        due("one", j.cases(0b1, 0), 0b0001);
        due("one, by its other way", j.cases(0b0110, 0), 0b0010);
        due("one rather than two", j.cases(0b1111, 0), 0b1000);
        due("two, of several the least", j.cases(0b110011, 0), 0b0101);
        due("two", j.cases(0b111111, 0), 0b0101);
        due("none says", j.cases(0b1000000, 0), -5);
        due("not all", j.cases(0b1000001, 0), -5);
        due("none needed", j.cases(0, 0), 0);
        j.pot(POT, 0, 0);
        j.pot(POT, 0, 0);
        cellar(j, "sweet 9 p=0&f=0;haze 9 p=1&f=1;sweet 9 p=2&f=2;sweet 9 p=3&f=3;sweet 9 p=4&f=4;haze 9 p=5&f=5");
        due("all of them", j.cases(0b111111, 0), 0b111111);
        due("not one more", j.cases(0b1111111, 0), -5);
        due("cases(256, 2)", j.cases(256, 2), NONE);
        due("cases(0, -1)", j.cases(0, -1), NONE);
        due("cases(256, 0)", j.cases(256, 0), BAD);
        due("cases(-1, 1)", j.cases(-1, 1), BAD);
        due("cases(LOW, HIGH)", j.cases(LOW, HIGH), NONE);
    }

    private static void own() {
        JamOath j = begin("13 cases, OWN");
        due("no POTS", j.cases(255, 1), 0);
        for (int i = 0; i < 6; i++) {
            j.pot(POT, 0, 0);
        }
        cellar(j, "sweet 9 p<2&f=0;haze 9 p=1&f=1;sweet 9 p=2&f=1;sweet 9 p>3&f=7");
        due("no FACTS", j.cases(0, 1), 0);
        due("one FACT of two POTS", j.cases(1, 1), 1);
        due("two", j.cases(3, 1), 2);
        due("one POT is not for two", j.cases(0b10000010, 1), 2);
        due("all", j.cases(255, 1), 3);
        cellar(j, "sweet 9 p<2;sweet 9 p=2&f=0;sweet 9 p=3&f=0");
        due("each gives way", j.cases(0b111, 1), 3);
        due("two that say all, one that says one", j.cases(0b110, 1), 2);
        due("more FACTS than POTS", j.cases(255, 1), 3);
        cellar(j, "sweet 9 p<9");
        due("as many as POTS", j.cases(255, 1), 6);
        due("as many as FACTS", j.cases(0b10101, 1), 3);
    }

    private static void hear() {
        JamOath j = begin("14 hear");
        due("hear(0, 0, 1)", j.hear(0, 0, 1), NONE);
        due("hear(-1, 99, 99)", j.hear(-1, 99, 99), 0);
        j.pot(POT, 0, 9);
        due("hear(-2, 0, 0)", j.hear(-2, 0, 0), NONE);
        due("hear(1, 0, 5)", j.hear(1, 0, 5), NONE);
        due("hear(0, 8, 5)", j.hear(0, 8, 5), NONE);
        due("hear(0, -1, 0)", j.hear(0, -1, 0), NONE);
        due("hear(0, 0, 2)", j.hear(0, 0, 2), BAD);
        due("hear(0, 0, -2)", j.hear(0, 0, -2), BAD);
        due("hear(0, 0, -5)", j.hear(0, 0, -5), BAD);
        for (int i = 1; i <= 6; i++) {
            due("hear", j.hear(0, i, i % 3 - 1), i);
        }
        due("a seventh", j.hear(0, 0, 0), FULL);
        due("a seventh, no says", j.hear(0, 0, 2), BAD);
        due("count(2)", j.count(2), 6);
        due("none then", j.hear(-1, 0, 0), 0);
        due("count(2)", j.count(2), 0);
        due("hear(0, 0, 0)", j.hear(0, 0, 0), 1);
    }

    private static void can() {
        JamOath j = begin("15 can");
        due("can(0, 0)", j.can(0, 0), NONE);
        j.pot(DAMSON, 9, 0);
        j.pot(POT, 5, 5);
        j.world(1);
        due("nothing HEARD", j.can(0, 0), 10);
        due("the least", j.can(0, 1), 0);
        j.hear(0, 0, 1);
        due("v 4 or more", j.can(0, 0), 6);
        due("the least", j.can(0, 1), 4);
        due("HEARD of another", j.can(1, 0), 10);
        j.hear(0, 1, 1);
        due("how many", j.can(0, 0), 0);
        due("the least", j.can(0, 1), -5);
        j.hear(-1, 0, 0);
        j.hear(0, 0, -1);
        due("nothing: v below 4", j.can(0, 0), 4);
        cellar(j, "haze 5 v=2");
        due("v in a TEST", j.can(0, 0), 3);
        cellar(j, "haze 20 v<9;haze 8 v=9");
        due("v 9 alone", j.can(0, 1), 9);
        due("can(0, 2)", j.can(0, 2), NONE);
        due("can(0, -1)", j.can(0, -1), NONE);
        due("can(2, 0)", j.can(2, 0), NONE);
        due("can(-1, 0)", j.can(-1, 0), NONE);
        due("v stays", j.of(0, 1), 9);
    }

    private static void fraction(String name, long above, long below, long wantAbove, long wantBelow) {
        due(name + " above", above, wantAbove);
        due(name + " below", below, wantBelow);
    }

    private static void odds() {
        JamOath j = begin("16 odds");
        fraction("any", j.odds(3, 0), j.odds(3, 1), 1, 2);
        j.pot(POT, 0, 9);
        j.hear(0, 3, 1);
        j.hear(0, 4, 0);
        fraction("sure", j.odds(3, 0), j.odds(3, 1), 1, 1);
        fraction("never", j.odds(4, 0), j.odds(4, 1), 0, 1);
        fraction("open", j.odds(7, 0), j.odds(7, 1), 1, 2);
        fraction("no fact", j.odds(8, 0), j.odds(-1, 1), NO, NO);
        fraction("no part", j.odds(0, 2), j.odds(0, -1), NO, NO);
        j.hear(0, 3, 0);
        fraction("none FITS", j.odds(3, 0), j.odds(7, 1), NO, NO);
    }

    private static void mean() {
        JamOath j = begin("17 mean");
        fraction("no POTS", j.mean(0, 0), j.mean(0, 1), NO, NO);
        j.pot(POT, 0, 0);
        fraction("nothing of one", j.mean(0, 0), j.mean(0, 1), 0, 1);
        j.pot(POT, 0, 3);
        fraction("3 of 2", j.mean(4, 0), j.mean(4, 1), 3, 2);
        j.pot(POT, 0, 3);
        j.pot(POT, 0, 4);
        fraction("10 of 4", j.mean(0, 0), j.mean(0, 1), 5, 2);
        fraction("14 of 4", j.mean(5, 0), j.mean(5, 1), 7, 2);
        fraction("36 of 4", j.mean(60, 0), j.mean(60, 1), 9, 1);
        fraction("no n", j.mean(61, 0), j.mean(-1, 1), NO, NO);
        fraction("no part", j.mean(0, 2), j.mean(0, -1), NO, NO);
        j.pot(POT, 0, 0);
        j.pot(POT, 0, 2);
        fraction("12 of 6", j.mean(0, 0), j.mean(0, 1), 2, 1);
        j.sugar(0, 1);
        fraction("13 of 6", j.mean(0, 0), j.mean(0, 1), 13, 6);
        due("nothing went", j.told(0), 0);
    }

    private static void plan() {
        JamOath j = begin("18 plan");
        due("plan(1, 0)", j.plan(1, 0), NONE);
        due("plan(2, 0)", j.plan(2, 0), NONE);
        due("plan(0, LOW)", j.plan(0, LOW), 1);
        due("plan(3, 7)", j.plan(3, 7), 2);
        j.pot(POT, 0, 0);
        j.pot(POT, 0, 0);
        due("plan(1, 17)", j.plan(1, 17), 3);
        due("plan(2, 1)", j.plan(2, 1), 4);
        for (int n : new int[] {-1, -10, 8, 9, 18, 20, 60, HIGH, LOW}) {
            due("plan(1, " + n + ")", j.plan(1, n), NONE);
        }
        due("plan(2, 2)", j.plan(2, 2), NONE);
        due("plan(2, -1)", j.plan(2, -1), NONE);
        due("plan(3, 8)", j.plan(3, 8), NONE);
        due("plan(3, -1)", j.plan(3, -1), NONE);
        due("plan(4, 0)", j.plan(4, 0), NONE);
        due("plan(-2, 0)", j.plan(-2, 0), NONE);
        for (int i = 5; i <= 10; i++) {
            due("plan(0, 0)", j.plan(0, 0), i);
        }
        due("an eleventh", j.plan(0, 0), FULL);
        due("an eleventh, none", j.plan(3, 8), NONE);
        due("count(3)", j.count(3), 10);
        due("empty", j.plan(-1, 5), 0);
        due("count(3)", j.count(3), 0);
        due("plan(0, 0)", j.plan(0, 0), 1);
    }

    private static void ends() {
        JamOath j = begin("19 ends");
        j.pot(POT, 0, 8);
        j.pot(POT, 0, 5);
        j.spoon(1, 0);
        due("without rows, SUGAR", j.ends(0), 12);
        due("without rows, OPENED", j.ends(1), 1);
        j.plan(1, 3);
        due("one is OPENED", j.ends(0), 11);
        due("OPENED", j.ends(1), 2);
        j.plan(2, 0);
        due("SUGAR is 0", j.ends(0), 4);
        j.plan(3, 2);
        due("THE WORLD turned", j.ends(0), 4);
        j.plan(1, 0);
        due("0 at least", j.ends(0), 4);
        due("OPENED", j.ends(1), 3);
        j.pass(4);
        j.plan(0, 0);
        due("a TERM", j.ends(0), 6);
        j.plan(2, 1);
        due("in their order", j.ends(0), 1);
        due("ends(2)", j.ends(2), NONE);
        due("ends(-1)", j.ends(-1), NONE);
        due("nothing changed", j.of(0, 2), 8);
        due("nothing changed", j.of(0, 4), 0);
        due("nothing changed", j.told(0), 4);
        due("nothing changed", j.told(2), 0);
        j.plan(-1, 0);
        for (int i = 0; i < 10; i++) {
            j.plan(1, 10);
        }
        due("9 at most", j.ends(1), 9);
        j.plan(-1, 0);
        cellar(j, "keep 1");
        j.sugar(1, 0);
        for (int i = 1; i <= 3; i++) {
            j.plan(0, 0);
            due("a TERM each", j.ends(0), Math.min(8 + i, 9) + i);
        }
    }

    private static void book() {
        JamOath j = begin("20 book");
        due("book(0, 10)", j.book(0, 10), NONE);
        due("book(-1, 10)", j.book(-1, 10), 0);
        j.pot(POT, 0, 0);
        due("book(-2, 0)", j.book(-2, 0), NONE);
        due("book(1, 0)", j.book(1, 0), NONE);
        due("book(0, 10)", j.book(0, 10), BAD);
        due("book(0, -1)", j.book(0, -1), BAD);
        for (int i = 1; i <= 8; i++) {
            due("book(0, i)", j.book(0, i), i);
        }
        due("a ninth", j.book(0, 0), FULL);
        due("a ninth, bad", j.book(0, 10), BAD);
        due("count(4)", j.count(4), 8);
        due("empty", j.book(-1, 0), 0);
        due("count(4)", j.count(4), 0);
    }

    private static void looked() {
        JamOath j = begin("21 looked");
        due("looked()", j.looked(), -5);
        j.pot(POT, 0, 3);
        j.pot(POT, 0, 4);
        j.book(0, 3);
        j.book(1, 4);
        due("looked()", j.looked(), -5);
        j.book(1, 5);
        due("the third row", j.looked(), 2);
        j.sugar(1, 5);
        due("the second", j.looked(), 1);
        j.spoon(0, 0);
        due("the first", j.looked(), 0);
        j.book(-1, 0);
        due("empty", j.looked(), -5);
    }

    private static void judge() {
        JamOath j = begin("22 judge");
        due("judge(-1, 0)", j.judge(-1, 0), NONE);
        due("judge(6, 0)", j.judge(6, 0), NONE);
        due("holds nothing", j.judge(5, 0), 100);
        j.tape(0, 0, 8);
        due("bytes", j.judge(0, 0), CAST);
        due("bytes, below 0", j.judge(0, -1), CAST);
        j.tape(0, 3, 8);
        due("longs", j.judge(0, 0), CAST);
        j.tape(1, 4, 10);
        due("all as it is", j.judge(1, 0), -5);
        due("from 2 on, just enough", j.judge(1, 2), -5);
        due("from 3 on, one short", j.judge(1, 3), 107);
        due("from 9 on", j.judge(1, 9), 101);
        due("from 10 on", j.judge(1, 10), 100);
        due("from 11 on", j.judge(1, 11), 100);
        due("below 0", j.judge(1, -1), 100);
        due("judge(1, HIGH)", j.judge(1, HIGH), 100);
        due("judge(1, LOW)", j.judge(1, LOW), 100);
        j.world(0b100);
        due("the first otherwise", j.judge(1, 0), 2);
        due("otherwise, ahead of the end", j.judge(1, 7), 2);
        due("the end ahead of that", j.judge(1, 8), 102);
        j.item(1, 5, 1);
        due("told too much", j.judge(1, 4), 1);
        due("just so", j.judge(1, 3), 107);
        j.tape(1, 4, 0);
        due("an empty row", j.judge(1, 0), 100);
    }

    private static void imageAndUndo() {
        JamOath j = begin("23, 24 image, undo");
        due("undo()", j.undo(), STATE);
        j.pot(TOLD, 4, 6);
        j.row(0, 2, 5);
        j.world(77);
        j.pass(3);
        j.spoon(0, 1);
        j.hear(0, 1, 1);
        j.plan(0, 0);
        j.plan(1, 2);
        j.book(0, 5);
        cellar(j, "keep 7");
        due("image()", j.image(), 1);
        due("image() again", j.image(), 1);
        for (int time = 0; time < 2; time++) {
            due("pot", j.pot(POT, 0, 0), 1);
            j.world(1);
            j.pass(9);
            j.spoon(0, 0);
            j.sugar(0, 9);
            j.row(0, 2, 8);
            j.hear(-1, 0, 0);
            j.hear(1, 5, 0);
            j.hear(1, 6, 0);
            j.plan(-1, 0);
            j.book(1, 9);
            cellar(j, "keep 3");
            due("told(1)", j.told(1), 3);
            due("undo()", j.undo(), 1);
            due("POTS", j.count(0), 1);
            due("THE WORLD", j.told(2), 77);
            due("TERM", j.told(0), 3);
            due("KIND", j.of(0, 0), TOLD);
            due("v", j.of(0, 1), 4);
            due("SUGAR", j.of(0, 2), 5);
            due("AGE", j.of(0, 3), 3);
            due("OPENED", j.of(0, 4), 1);
            due("ROW", j.of(0, 12), 5 - 2 + 5 - 4);
            due("HEARD", j.count(2), 1);
            due("what was HEARD, the other way", j.told(6), 2);
            due("PLAN", j.count(3), 2);
            due("what is planned", j.ends(1), 2);
            due("BOOK", j.count(4), 1);
            due("what is booked", j.looked(), -5);
            due("which CELLAR holds", j.told(1), 7);
        }
        due("CELLARS stay", j.count(1), 3);
        due("the next CELLAR", cellar(j, "keep 9"), 3);
    }

    private static void undoLeaves() {
        JamOath j = begin("24 undo leaves the rest");
        due("image()", j.image(), 0);
        j.pot(DAMSON, 2, 3);
        j.tape(2, 2, 3);
        j.item(2, 1, 44);
        j.act(0, 1, 5);
        cellar(j, "keep 2");
        write(j, "ke");
        due("undo()", j.undo(), 0);
        due("no CELLAR holds", j.told(1), 5);
        due("but there is one", j.count(1), 1);
        due("THE TEXT", j.count(5), 2);
        due("THE TRACE", j.count(6), 3);
        due("trace(0)", j.trace(0), 20);
        due("TAPES", j.read(2, 1), 44);
        due("of(0, 0)", j.of(0, 0), NO_SUCH);
        due("pot", j.pot(WASP, 1, 1), 0);
        due("a new ROW, AGE, OPENED", j.of(0, 3) + j.of(0, 4), 0);
        due("undo()", j.undo(), 0);
        j.pot(TOLD, 0, 0);
        j.row(0, 1, 9);
        j.spoon(0, 0);
        j.pass(2);
        due("undo()", j.undo(), 0);
        j.pot(TOLD, 0, 0);
        due("ROW is new", j.row(0, 1, 1), 0);
        due("OPENED is new", j.of(0, 4), 0);
        due("AGE is new", j.of(0, 3), 0);
    }

    private static void undonePotsAreGone() {
        JamOath j = begin("24 undo, POTS that are gone");
        j.pot(POT, 0, 4);
        j.image();
        j.pot(POT, 0, 9);
        j.spoon(1, 0);
        j.plan(1, 10);
        j.undo();
        j.world(1);
        due("FOUND", j.told(10), 4);
        due("ON", j.on(0, 0), 4);
        due("MEAN", j.mean(0, 0), 4);
        due("ENDS, SUGAR", j.ends(0), 4);
        due("ENDS, OPENED", j.ends(1), 0);
        due("ENOUGH", j.cases(255, 0), 1);
        due("OWN", j.cases(255, 1), 1);
        due("hear(1, 0, 1)", j.hear(1, 0, 1), NONE);
        due("act(1, 0, 1)", j.act(1, 0, 1), 0);
        due("taken(1, 0)", j.taken(1, 0), NOTHING);
    }

    private static void acted(JamOath j, int pot, int act, int x, int want, int... bodies) {
        String call = "act(" + pot + ", " + act + ", " + x + ")";
        due(call, j.act(pot, act, x), want);
        due(call + ": count(6)", j.count(6), bodies.length);
        for (int i = 0; i < bodies.length; i++) {
            due(call + ": trace(" + i + ")", j.trace(i), bodies[i]);
        }
        due(call + ": trace beyond", j.trace(bodies.length), NONE);
    }

    private static void act() {
        JamOath j = begin("25 act");
        j.pot(POT, 3, 0);
        j.pot(DAMSON, 3, 0);
        j.pot(PLUM, 3, 0);
        j.pot(BERRY, 3, 0);
        j.pot(QUINCE, 3, 0);
        j.pot(WASP, 3, 0);
        acted(j, 0, 0, 5, 5, 10);
        acted(j, 0, 1, 5, 2, 11, 10);
        acted(j, 0, 2, 5, 4, 12, 11, 10);
        acted(j, 1, 0, 5, 6, 10);
        acted(j, 1, 1, 5, 3 ^ 6, 20, 11, 10);
        acted(j, 1, 2, 5, 10, 12, 20, 11, 10);
        acted(j, 2, 0, 5, 17, 30, 10);
        acted(j, 2, 1, 5, 14, 11, 30, 10);
        acted(j, 2, 2, 5, 28, 12, 11, 30, 10);
        acted(j, 3, 0, 5, 8, 10);
        acted(j, 3, 1, 5, 5, 11, 10);
        acted(j, 3, 2, 5, 11, 40, 12, 11, 10, 11, 10);
        acted(j, 4, 0, 5, -9, 50, 10);
        acted(j, 4, 1, 5, -13 ^ 6, 51, 20, 11, 50, 10);
        acted(j, 4, 2, 5, (-13 ^ 6) * 2, 12, 51, 20, 11, 50, 10);
        acted(j, 5, 0, 5, 20, 30, 10);
        acted(j, 5, 1, 5, 17, 11, 30, 10);
        acted(j, 5, 2, 5, 4, 60, 12, 11, 30, 10);
        JamOath t = new JamOath();
        t.pot(POT, 0, 0);
        t.pot(TOLD, 3, 0);
        acted(t, 1, 0, 5, 6 ^ 3, 71, 10);
        acted(t, 1, 1, 5, (6 ^ 3) - 3 + 3, 70, 11, 71, 10, 10);
        int shows1 = (2 ^ 3) - 3 + 3;
        acted(t, 1, 2, 5, 2 * 5 + shows1, 40, 12, 70, 11, 71, 10, 10, 70, 11, 71, 10, 10);
        acted(t, 2, 0, 5, 0);
        acted(t, 1, 1, 5, 5, 70, 11, 71, 10, 10);
        acted(t, 1, 3, 5, 0);
        acted(t, 1, -1, 5, 0);
        acted(t, -1, 0, 5, 0);
        acted(t, LOW, HIGH, 5, 0);
    }

    private static void actWraps() {
        JamOath j = begin("25 act, wrapping");
        j.pot(POT, 1, 0);
        j.pot(PLUM, 0, 0);
        j.pot(QUINCE, 0, 0);
        due("act(1, 0, HIGH)", j.act(1, 0, HIGH), HIGH * 3 + 1);
        due("act(0, 1, LOW)", j.act(0, 1, LOW), HIGH);
        due("act(0, 2, LOW)", j.act(0, 2, LOW), -2);
        due("act(2, 0, LOW)", j.act(2, 0, LOW), -(LOW + 2));
        due("act(2, 0, LOW - 2)", j.act(2, 0, LOW - 2), LOW);
    }

    private static void trace() {
        JamOath j = begin("26 trace");
        j.pot(PLUM, 0, 0);
        due("trace(0)", j.trace(0), NONE);
        j.act(0, 0, 1);
        due("trace(0)", j.trace(0), 30);
        due("trace(1)", j.trace(1), 10);
        for (int i : new int[] {-1, 2, 19, 20, 21, LOW, HIGH}) {
            due("trace(" + i + ")", j.trace(i), NONE);
        }
        j.spoon(0, 0);
        due("other calls leave it", j.trace(0), 30);
        j.act(0, 7, 1);
        due("none then", j.trace(0), NONE);
        due("count(6)", j.count(6), 0);
    }

    private static void taken() {
        JamOath j = begin("27 taken");
        int[][] tops = {{0}, {0, 1}, {0, 2}, {0, 3}, {0, 1, 4}, {0, 2, 5}, {0, 3, 6}};
        for (int kind = 0; kind < 7; kind++) {
            JamOath one = new JamOath();
            one.pot(kind, 0, 0);
            for (int k = 0; k < 7; k++) {
                int want = CAST;
                for (int top : tops[kind]) {
                    want = top == k ? kind : want;
                }
                due("taken of " + kind + " for " + k, one.taken(0, k), want);
            }
        }
        due("taken(0, 7)", j.taken(0, 7), BAD);
        due("taken(0, -1)", j.taken(0, -1), BAD);
        due("taken(0, 0)", j.taken(0, 0), NOTHING);
        due("taken(-1, 6)", j.taken(-1, 6), NOTHING);
        due("taken(LOW, HIGH)", j.taken(LOW, HIGH), BAD);
    }

    private static void count() {
        JamOath j = begin("28 count");
        j.pot(POT, 0, 0);
        j.pot(POT, 0, 0);
        cellar(j, "keep 1");
        for (int i = 0; i < 3; i++) {
            j.hear(0, 0, 0);
            j.plan(0, 0);
            j.book(0, 0);
        }
        j.plan(0, 0);
        j.book(0, 0);
        j.book(0, 0);
        write(j, "sixten");
        j.act(0, 2, 0);
        int[] want = {2, 1, 3, 4, 5, 6, 3};
        for (int what = 0; what < 7; what++) {
            due("count(" + what + ")", j.count(what), want[what]);
        }
        for (int what : new int[] {-1, 7, LOW, HIGH}) {
            due("count(" + what + ")", j.count(what), BAD);
        }
    }

    private static void tape() {
        JamOath j = begin("29 tape");
        due("tape(-1, 9, 0)", j.tape(-1, 9, 0), NONE);
        due("tape(6, 0, 0)", j.tape(6, 0, 0), NONE);
        due("tape(0, 5, -1)", j.tape(0, 5, -1), BAD);
        due("tape(0, -2, 0)", j.tape(0, -2, 0), BAD);
        due("tape(0, 0, 61)", j.tape(0, 0, 61), BAD);
        due("tape(0, 0, -1)", j.tape(0, 0, -1), SIZE);
        due("tape(0, 4, LOW)", j.tape(0, 4, LOW), SIZE);
        due("item(0, 0, 1)", j.item(0, 0, 1), NOTHING);
        due("tape(0, 2, 60)", j.tape(0, 2, 60), 1);
        j.item(0, 59, 7);
        due("read(0, 59)", j.read(0, 59), 7);
        due("tape(0, 2, 61) leaves it", j.tape(0, 2, 61), BAD);
        due("read(0, 59)", j.read(0, 59), 7);
        due("tape(0, 2, 60)", j.tape(0, 2, 60), 1);
        due("all 0", j.read(0, 59), 0);
        due("tape(0, 3, 0)", j.tape(0, 3, 0), 1);
        due("a row of none", j.item(0, 0, 1), PLACE);
        due("tape(0, -1, LOW)", j.tape(0, -1, LOW), 1);
        due("holds nothing", j.item(0, 0, 1), NOTHING);
        due("tape(5, -1, 99)", j.tape(5, -1, 99), 1);
        due("tape(6, -1, 0)", j.tape(6, -1, 0), NONE);
    }

    private static void item() {
        JamOath j = begin("30 item");
        long v = 0x123456789abcdef0L;
        long[] want = {(byte) 0xf0, (short) 0xdef0, 0x9abcdef0, v, 1};
        for (int sort = 0; sort < 5; sort++) {
            j.tape(sort, sort, 2);
            due("item(" + sort + ", 1, v)", j.item(sort, 1, v), 1);
            due("read(" + sort + ", 1)", j.read(sort, 1), want[sort]);
            due("read(" + sort + ", 0)", j.read(sort, 0), 0);
        }
        j.item(0, 0, 127);
        due("127", j.read(0, 0), 127);
        j.item(0, 0, 128);
        due("128", j.read(0, 0), -128);
        j.item(1, 0, 32768);
        due("32768", j.read(1, 0), -32768);
        j.item(2, 0, 1L << 32);
        due("lowest bits of 2 to the 32nd", j.read(2, 0), 0);
        j.item(4, 0, 1L << 32);
        due("whether it is not 0", j.read(4, 0), 1);
        j.item(4, 0, 0);
        due("0", j.read(4, 0), 0);
        j.item(3, 0, Long.MIN_VALUE);
        due("the least long", j.read(3, 0), Long.MIN_VALUE);
        due("item(-1, 0, 0)", j.item(-1, 0, 0), NONE);
        due("item(6, 0, 0)", j.item(6, 0, 0), NONE);
        due("item(5, -1, 0)", j.item(5, -1, 0), NOTHING);
        due("item(0, -1, 0)", j.item(0, -1, 0), PLACE);
        due("item(0, 2, 0)", j.item(0, 2, 0), PLACE);
        due("item(0, LOW, 0)", j.item(0, LOW, 0), PLACE);
    }

    private static void read() {
        JamOath j = begin("31 read");
        due("read(0, 0)", j.read(0, 0), NO);
        j.tape(0, 1, 3);
        due("read(0, 2)", j.read(0, 2), 0);
        due("read(0, 3)", j.read(0, 3), NO);
        due("read(0, -1)", j.read(0, -1), NO);
        due("read(-1, 0)", j.read(-1, 0), NO);
        due("read(6, 0)", j.read(6, 0), NO);
        due("read(HIGH, LOW)", j.read(HIGH, LOW), NO);
    }

    private static void row(JamOath j, int tape, long... want) {
        for (int i = 0; i < want.length; i++) {
            due("read(" + tape + ", " + i + ")", j.read(tape, i), want[i]);
        }
    }

    private static void shift() {
        JamOath j = begin("32 shift");
        j.tape(0, 2, 5);
        j.tape(1, 2, 3);
        j.tape(2, 3, 5);
        for (int i = 0; i < 5; i++) {
            j.item(0, i, i + 1);
        }
        due("shift(-1, 0, 0, 0, 1)", j.shift(-1, 0, 0, 0, 1), NONE);
        due("shift(3, 0, 6, 0, 1)", j.shift(3, 0, 6, 0, 1), NONE);
        due("shift(3, 0, 0, 0, -1)", j.shift(3, 0, 0, 0, -1), NOTHING);
        due("shift(0, 0, 3, 9, 1)", j.shift(0, 0, 3, 9, 1), NOTHING);
        due("shift(3, 0, 3, 0, 0)", j.shift(3, 0, 3, 0, 0), NOTHING);
        due("shift(0, -1, 2, 0, 1)", j.shift(0, -1, 2, 0, 1), CAST);
        int[][] places = {{-1, 0, 1}, {0, -1, 1}, {0, 0, -1}, {3, 0, 3}, {0, 1, 3}, {6, 0, 0}, {0, 4, 0},
            {HIGH, 0, HIGH}, {2, 2, HIGH}, {HIGH, 0, 1}, {LOW, 0, 0}, {0, 0, LOW}};
        for (int[] p : places) {
            due("shift(0, " + p[0] + ", 1, " + p[1] + ", " + p[2] + ")", j.shift(0, p[0], 1, p[1], p[2]), PLACE);
        }
        row(j, 1, 0, 0, 0);
        due("none at the ends", j.shift(0, 5, 1, 3, 0), 0);
        due("to another", j.shift(0, 1, 1, 1, 2), 2);
        row(j, 1, 0, 2, 3);
        due("on within one", j.shift(0, 0, 0, 1, 4), 4);
        row(j, 0, 1, 1, 2, 3, 4);
        due("back within one", j.shift(0, 2, 0, 0, 3), 3);
        row(j, 0, 2, 3, 4, 3, 4);
        due("all of it", j.shift(0, 0, 0, 0, 5), 5);
        row(j, 0, 2, 3, 4, 3, 4);
    }

    /** All that is asked, twice over, with all answers alike. */
    private static void askingChangesNothing() {
        JamOath j = begin("asking changes nothing");
        j.pot(QUINCE, 2, 3);
        j.pot(TOLD, 2, 7);
        j.row(1, 1, 6);
        cellar(j, "sweet 3 f>3|s=2;haze 8 a=1;keep 2");
        j.hear(1, 1, 1);
        j.plan(1, 11);
        j.plan(0, 0);
        j.book(0, 3);
        j.tape(0, 4, 9);
        long first = askAll(j);
        due("the second time", askAll(j), first);
        due("the third time", askAll(j), first);
    }

    private static long askAll(JamOath j) {
        long mark = 7;
        for (int what = 0; what < 40; what++) {
            for (int n = 0; n < 2; n++) {
                mark = mark * 31 + j.of(n, what);
            }
            mark = mark * 31 + j.told(what % 20) + 3 * j.on(what, what % 25) + 5 * j.cases(what * 6, what % 2);
        }
        mark = mark * 31 + j.can(0, 0) + 3 * j.can(1, 1) + 5 * j.odds(1, 1) + 7 * j.mean(33, 0) + 9 * j.ends(0);
        return mark * 31 + j.ends(1) + 3 * j.looked() + 5 * j.judge(0, 0) + 7 * j.taken(1, 3) + 9 * j.read(0, 1);
    }
}
