/** The document's terms, 1. THE ISLAND, sentence by sentence. */
public final class TermsIslandTest {
    private static final Said SAID = new Said("TermsIslandTest");

    private TermsIslandTest() {
    }

    public static void main(String[] args) {
        SAID.between("==== 1. THE ISLAND", "==== 2. PRICES AND DEEDS");
        parts();
        makerNumbers();
        kinds();
        makerNumbersToo();
        kinAndPlaces();
        court();
        texts();
        items();
        ends();
        told();
        faults();
        SAID.end();
    }

    private static void parts() {
        SAID.says("PARTS are 0 to n less 1");
        SAID.refused(TermsIslandTest::one, "knows(0, -1, ..)", x -> x.knows(0, -1, true), -6);
        SAID.refused(TermsIslandTest::one, "knows(0, 4, ..) of 4", x -> x.knows(0, 4, true), -6);
        NoneMayLeave x = one();
        SAID.is("knows(0, 0, ..)", x.knows(0, 0, true), 0);
        SAID.is("knows(0, 3, ..) of 4", x.knows(0, 3, true), 0);
        x.parts(5);
        SAID.is("knows(0, 4, ..) of 5", x.knows(0, 4, true), 0);
        SAID.is("knows(0, 5, ..) of 5", x.knows(0, 5, true), -6);
        x.parts(8);
        SAID.is("knows(0, 7, ..) of 8", x.knows(0, 7, true), 0);
        SAID.is("knows(0, 8, ..) of 8", x.knows(0, 8, true), -6);
        SAID.says("(n 1 to 8; 4 at first)");
        SAID.is("status(1)", new NoneMayLeave().status(1), 4);
        SAID.is("parts(8)", new NoneMayLeave().parts(8), 4);
        SAID.refused(TermsIslandTest::one, "parts(9)", y -> y.parts(9), -6);
        SAID.refused(TermsIslandTest::one, "parts(0)", y -> y.parts(0), -6);
        SAID.refused(TermsIslandTest::one, "parts(-1)", y -> y.parts(-1), -6);
        SAID.refused(TermsIslandTest::one, "parts(MIN)", y -> y.parts(Integer.MIN_VALUE), -6);
    }

    private static NoneMayLeave one() {
        NoneMayLeave x = new NoneMayLeave();
        x.maker(0, 0, 0);
        return x;
    }

    private static NoneMayLeave eight() {
        NoneMayLeave x = new NoneMayLeave();
        for (int m = 0; m < 8; m++) {
            x.maker(0, 0, m);
        }
        return x;
    }

    private static void makerNumbers() {
        SAID.says("MAKERS have numbers, from 0 on, 8 at most");
        NoneMayLeave x = new NoneMayLeave();
        for (int m = 0; m < 8; m++) {
            SAID.is("makerOf(" + m + ", 0) ahead of him", x.makerOf(m, 0), -5);
            SAID.is("maker " + m, x.maker(0, 0, m), m);
            SAID.is("makerOf(" + m + ", 2)", x.makerOf(m, 2), m);
        }
        SAID.refused(TermsIslandTest::eight, "a ninth", y -> y.maker(0, 0, 0), -7);
        SAID.is("status(0)", x.status(0), 8);
    }

    private static NoneMayLeave ofKind(int kind) {
        NoneMayLeave x = new NoneMayLeave();
        x.maker(kind, 0, 50);
        x.show(0, 0);
        return x;
    }

    /** A maker of a kind can be taken for one of just these kinds (bits). */
    private static void isUnder(int kind, int kinds) {
        for (int other = 0; other < 7; other++) {
            boolean is = ofKind(kind).says(0, other) != -2;
            SAID.is("a maker of kind " + kind + " is one of kind " + other, is ? 1 : 0, kinds >> other & 1);
        }
    }

    private static void kinds() {
        SAID.says("each of a KIND: 0 MAKER; 1 HUSBAND, 2 DOUBLE, 4 FOUNDLING, each under MAKER");
        SAID.refused(TermsIslandTest::one, "maker(-1, ..)", x -> x.maker(-1, 0, 0), -1);
        SAID.refused(TermsIslandTest::one, "maker(7, ..)", x -> x.maker(7, 0, 0), -1);
        for (int kind = 0; kind < 7; kind++) {
            SAID.is("makerOf(0, 0) of kind " + kind, ofKind(kind).makerOf(0, 0), kind);
        }
        isUnder(0, 1);
        isUnder(1, 1 | 2);
        isUnder(2, 1 | 4);
        isUnder(4, 1 | 16);
        SAID.says("3 FATHER, under HUSBAND");
        isUnder(3, 1 | 2 | 8);
        SAID.says("5 SPY, under DOUBLE");
        isUnder(5, 1 | 4 | 32);
        SAID.says("6 BOY, under FOUNDLING");
        isUnder(6, 1 | 16 | 64);
    }

    private static void makerNumbersToo() {
        SAID.says("a (0 to 9)");
        NoneMayLeave x = new NoneMayLeave();
        SAID.is("maker of a 0", x.maker(0, 0, 5), 0);
        SAID.is("maker of a 9", x.maker(0, 9, 5), 1);
        SAID.is("makerOf(0, 1)", x.makerOf(0, 1), 0);
        SAID.is("makerOf(1, 1)", x.makerOf(1, 1), 9);
        SAID.refused(TermsIslandTest::one, "maker of a 10", y -> y.maker(0, 10, 5), -6);
        SAID.refused(TermsIslandTest::one, "maker of a -1", y -> y.maker(0, -1, 5), -6);
        SAID.says("WANT (0 to 99)");
        SAID.is("maker of WANT 0", x.maker(0, 1, 0), 2);
        SAID.is("maker of WANT 99", x.maker(0, 1, 99), 3);
        SAID.is("makerOf(2, 2)", x.makerOf(2, 2), 0);
        SAID.is("makerOf(3, 2)", x.makerOf(3, 2), 99);
        SAID.refused(TermsIslandTest::one, "maker of WANT 100", y -> y.maker(0, 1, 100), -6);
        SAID.refused(TermsIslandTest::one, "maker of WANT -1", y -> y.maker(0, 1, -1), -6);
    }

    private static void kinAndPlaces() {
        SAID.says("KNOWS (PARTS, bits; none at first)");
        NoneMayLeave x = eight();
        SAID.is("makerOf(7, 3): none", x.makerOf(7, 3), 0);
        x.parts(8);
        x.knows(7, 0, true);
        x.knows(7, 7, true);
        SAID.is("makerOf(7, 3): 0 and 7", x.makerOf(7, 3), 129);
        SAID.is("makerOf(6, 3): he alone", x.makerOf(6, 3), 0);
        SAID.says("KIN (other MAKERS, bits; whose KIN one is is his)");
        SAID.is("makerOf(7, 4): none", x.makerOf(7, 4), 0);
        SAID.refused(TermsIslandTest::eight, "kin(7, 7, ..)", y -> y.kin(7, 7, true), -6);
        x.kin(7, 0, true);
        x.kin(1, 7, true);
        SAID.is("makerOf(7, 4)", x.makerOf(7, 4), 3);
        SAID.is("makerOf(0, 4): it's mutual", x.makerOf(0, 4), 128);
        SAID.is("makerOf(1, 4): it's mutual", x.makerOf(1, 4), 128);
        x.kin(0, 7, false);
        SAID.is("makerOf(7, 4): so is its end", x.makerOf(7, 4), 2);
        SAID.is("makerOf(0, 4): so is its end", x.makerOf(0, 4), 0);
        SAID.says("PLACE: 0 HOME, 1 ABROAD, 2 SHUT up, 3 DEAD");
        NoneMayLeave rich = Made.rich();
        int[] places = {0, 0, 0, 0, 2, 1, 3};
        for (int m = 0; m < 7; m++) {
            SAID.is("makerOf(" + m + ", 5)", rich.makerOf(m, 5), places[m]);
        }
        SAID.says("(HOME at first)");
        SAID.is("makerOf(7, 5) of a new one", x.makerOf(7, 5), 0);
        SAID.is("maker behind others", rich.maker(0, 0, 0), 7);
        SAID.is("makerOf(7, 5) behind others", rich.makerOf(7, 5), 0);
    }

    private static void court() {
        SAID.says("FEAR (0 to 99; 0 at first)");
        NoneMayLeave x = new NoneMayLeave();
        SAID.is("status(5)", x.status(5), 0);
        SAID.is("ask(0, 99)", x.ask(0, 99), 0);
        SAID.is("ask(0, 0)", x.ask(0, 0), 99);
        SAID.refused(Made::rich, "ask(0, 100)", y -> y.ask(0, 100), -6);
        SAID.refused(Made::rich, "ask(0, -1)", y -> y.ask(0, -1), -6);
        SAID.says("PURSE of the court (0 to 9999; 100 at first)");
        SAID.is("status(6)", x.status(6), 100);
        SAID.is("ask(1, 9999)", x.ask(1, 9999), 100);
        SAID.is("ask(1, 0)", x.ask(1, 0), 9999);
        SAID.refused(Made::rich, "ask(1, 10000)", y -> y.ask(1, 10000), -6);
        SAID.refused(Made::rich, "ask(1, -1)", y -> y.ask(1, -1), -6);
        SAID.says("MONTHS gone (0 at first)");
        SAID.is("status(7)", x.status(7), 0);
        x.month();
        SAID.is("status(7): one gone", x.status(7), 1);
        SAID.says("DEAD (how many were killed).");
        SAID.is("status(4)", x.status(4), 0);
        NoneMayLeave y = eight();
        y.bid(0, 50);
        y.bid(1, 50);
        y.deed(2, 0);
        SAID.is("status(4): abroad and shut up aren't", y.status(4), 0);
        y.deed(0, 1);
        y.deed(1, 1);
        SAID.is("status(4): two killed", y.status(4), 2);
    }

    // ---- texts

    private static final String FOUR = "parts 5;maker 0 1 2;maker 1 2 3;maker 2 3 4;maker 3 4 5;goes 1;dies 3";

    /** Makers 0 at home, 1 abroad, 2 shut up, 3 dead; 5 parts. */
    private static NoneMayLeave four() {
        NoneMayLeave x = Made.by(FOUR);
        x.deed(2, 0);
        return x;
    }

    private static void good(String text, int items) {
        NoneMayLeave x = four();
        SAID.is("island of '" + text + "'", Texts.island(x, text), items);
        SAID.is("fault of '" + text + "'", x.fault(), -1);
    }

    private static void bad(String text, int fault) {
        NoneMayLeave x = four();
        NoneMayLeave untouched = four();
        Texts.letters(untouched, 7, text);
        SAID.is("island of '" + text + "'", Texts.island(x, text), -6);
        SAID.is("fault of '" + text + "'", x.fault(), fault);
        SAID.is("status(16) by '" + text + "'", x.status(16), 1);
        for (int what = 0; what <= 8; what++) {
            SAID.is("status(" + what + ") by '" + text + "'", x.status(what), untouched.status(what));
        }
    }

    private static void texts() {
        SAID.says("An ISLAND is read from a ROW of letters:");
        for (int sort = 0; sort < 4; sort++) {
            NoneMayLeave x = new NoneMayLeave();
            Texts.numbers(x, 0, sort, 'f', 'e', 'a', 'r', ' ', '7');
            SAID.is("island by a row of sort " + sort, x.island(0), 1);
            SAID.is("status(5)", x.status(5), 7);
        }
        NoneMayLeave x = new NoneMayLeave();
        Texts.numbers(x, 0, 2, 'f', 'e', 'a', 'r', ' ', '7' + 256);
        SAID.is("island: a number that is no letter", x.island(0), -6);
        SAID.is("fault()", x.fault(), 5);
        bad("Fear 7", 0);
        SAID.says("ITEM, then any number of times ; and ITEM");
        good("fear 1", 1);
        good("fear 1;fear 2", 2);
        bad("", 0);
        bad(";", 0);
        bad("fear 1;", 7);
        bad("fear 1;;fear 2", 7);
        bad("fear 1 fear 2", 6);
        bad("fear 1; fear 2", 7);
        bad("fear 1,fear 2", 6);
        NoneMayLeave most = new NoneMayLeave();
        StringBuilder text = new StringBuilder("fear 0");
        while (text.length() + 7 <= 160) {
            text.append(";fear ").append(text.length() % 10);
        }
        SAID.is("the longest text's letters", text.length(), 160);
        SAID.is("island of all 160 letters", Texts.island(most, text.toString()), 23);
        SAID.is("status(5): the last of them", most.status(5), 9);
    }

    private static void items() {
        SAID.says("parts N (only as many or more than there are)");
        good("parts 5", 1);
        good("parts 8", 1);
        bad("parts 4", 6);
        bad("parts 9", 6);
        bad("parts 0", 6);
        bad("parts 7;parts 6", 14);
        SAID.is("status(1)", Made.by("parts 6").status(1), 6);
        SAID.says("maker K A W (KIND, a, WANT)");
        NoneMayLeave x = Made.by("maker 6 9 99;maker 0 0 0");
        int[] due = {6, 9, 99, 0, 0, 0};
        for (int what = 0; what < 6; what++) {
            SAID.is("makerOf(0, " + what + ")", x.makerOf(0, what), due[what]);
            SAID.is("makerOf(1, " + what + ")", x.makerOf(1, what), 0);
        }
        bad("maker 7 0 0", 6);
        bad("maker 0 10 0", 8);
        bad("maker 0 0 100", 10);
        bad("maker 0 0", 9);
        bad("maker 0 0;fear 1", 9);
        bad("maker 0 0 0 0", 11);
        SAID.says("knows M P");
        SAID.is("makerOf(1, 3)", Made.by("maker 0 0 0;maker 0 0 0;knows 1 0;knows 1 3;knows 1 3").makerOf(1, 3), 9);
        good("knows 3 4", 1);
        bad("knows 4 0", 6);
        bad("knows 0 5", 8);
        good("parts 6;knows 0 5", 2);
        SAID.says("kin M L");
        NoneMayLeave kin = Made.by("maker 0 0 0;maker 0 0 0;maker 0 0 0;kin 0 2;kin 2 0");
        SAID.is("makerOf(0, 4)", kin.makerOf(0, 4), 4);
        SAID.is("makerOf(2, 4)", kin.makerOf(2, 4), 1);
        good("kin 3 0", 1);
        bad("kin 4 0", 4);
        bad("kin 0 4", 6);
        SAID.says("fear N");
        SAID.is("status(5)", Made.by("fear 99").status(5), 99);
        good("fear 0", 1);
        bad("fear 100", 5);
        SAID.says("purse N");
        SAID.is("status(6)", Made.by("purse 9999").status(6), 9999);
        SAID.is("status(6)", Made.by("purse 0").status(6), 0);
    }

    private static void ends() {
        SAID.says("goes M (he is ABROAD, if he is HOME)");
        NoneMayLeave x = four();
        SAID.is("island of 'goes 0'", Texts.island(x, "goes 0"), 1);
        SAID.is("makerOf(0, 5)", x.makerOf(0, 5), 1);
        SAID.is("status(6): nobody pays", x.status(6), 100);
        bad("goes 4", 5);
        SAID.says("dies M (he is DEAD, if he isn't yet)");
        for (int m = 0; m < 3; m++) {
            NoneMayLeave y = four();
            SAID.is("island of 'dies " + m + "'", Texts.island(y, "dies " + m), 1);
            SAID.is("makerOf(" + m + ", 5)", y.makerOf(m, 5), 3);
            SAID.is("status(5): it frightens nobody", y.status(5), 5);
        }
        bad("dies 4", 5);
        SAID.says("One blank between words and NUMBERS (1 to 4 digits).");
        bad("fear1", 4);
        bad("fear  1", 5);
        bad("fear 1 ", 6);
        bad(" fear 1", 0);
        bad("knows 0,1", 7);
        bad("knows 0  1", 8);
        bad("fear x", 5);
        bad("fear -1", 5);
        good("fear 1", 1);
        good("purse 1234", 1);
        bad("purse 12345", 10);
        bad("fear 00001", 9);
    }

    private static void told() {
        SAID.says("All is told over what there is, or nothing");
        NoneMayLeave x = four();
        x.knows(0, 1, true);
        SAID.is("island", Texts.island(x, "maker 4 5 6;knows 0 0;kin 0 4;parts 6"), 4);
        SAID.is("makerOf(0, 3): he knew one", x.makerOf(0, 3), 3);
        SAID.is("makerOf(0, 4)", x.makerOf(0, 4), 16);
        SAID.is("makerOf(1, 5): as he was", x.makerOf(1, 5), 1);
        SAID.is("status(0)", x.status(0), 5);
        SAID.is("status(5): as it was", x.status(5), 5);
        String all = "parts 8;maker 0 0 0;knows 0 0;kin 0 1;fear 9;purse 9;goes 0;dies 2;";
        NoneMayLeave y = four();
        SAID.is("island with a fault at its end", Texts.island(y, all + "x"), -6);
        NoneMayLeave untouched = four();
        Texts.island(untouched, "x");
        Texts.numbers(y, 7, 0);
        Texts.numbers(untouched, 7, 0);
        SAID.is("fault()", y.fault(), all.length());
        long[] seen = Made.seen(y);
        long[] due = Made.seen(untouched);
        for (int i = 0; i < due.length; i++) {
            boolean isFault = seen[i] == all.length() && due[i] == 0;
            SAID.is("nothing of it is told: " + i, isFault ? 0 : seen[i], due[i]);
        }
        room();
        SAID.says("the same MAKER: L");
        bad("kin 0 0", 6);
        bad("kin 2 02", 6);
        bad("fear 1;kin 3 3", 13);
        SAID.says("one who isn't HOME, is DEAD: M).");
        bad("goes 1", 5);
        bad("goes 2", 5);
        bad("goes 3", 5);
        bad("goes 0;goes 0", 12);
        bad("dies 0;goes 0", 12);
        bad("dies 3", 5);
        bad("dies 1;dies 1", 12);
        bad("goes 0;dies 0;dies 000", 19);
    }

    private static void room() {
        SAID.says("(what there is no room for can't stand: its word, once that is whole");
        String four = "maker 0 0 0;maker 0 0 0;maker 0 0 0;maker 0 0 0";
        good(four, 4);
        bad(four + ";maker 0 0 0", 48);
        bad(four + ";maker 9 9 9", 48);
        bad(four + ";maker", 48);
        bad(four + ";makers", 48);
        bad(four + ";make", 52);
        bad(four + ";fear 1;maker 0 0 0", 55);
    }

    private static void faults() {
        SAID.says("The FAULT: the first place at which an element can't stand as such texts go on");
        bad("x", 0);
        bad("px", 1);
        bad("pax", 2);
        bad("pux", 2);
        bad("kx", 1);
        bad("knx", 2);
        bad("kix", 2);
        bad("goex", 3);
        bad("dier 1", 3);
        bad("fear 1x", 6);
        bad("fear 1;x", 7);
        bad("fear 1;fear 1?fear 100", 13);
        bad("knows 0:1", 7);
        bad("fear /", 5);
        bad("fear 9:", 6);
        SAID.says("(the number of elements, if it ends too early)");
        bad("p", 1);
        bad("purs", 4);
        bad("fear", 4);
        bad("fear ", 5);
        bad("knows 0", 7);
        bad("knows 0 ", 8);
        bad("maker 0 0 ", 10);
        bad("fear 1;", 7);
        bad("fear 1;k", 8);
        bad("kin", 3);
        bad("kin ", 4);
        bad("kin 0", 5);
        bad("kin 0 ", 6);
        SAID.is("fault of 'goes', 0 is abroad", Texts.fault(Made.by("maker 0 0 0;goes 0"), "goes"), 4);
        SAID.is("fault of 'goes ', 0 is abroad", Texts.fault(Made.by("maker 0 0 0;goes 0"), "fear 1;goes "), 12);
        SAID.is("fault of 'dies', 0 is dead", Texts.fault(Made.by("maker 0 0 0;dies 0"), "dies"), 4);
        SAID.is("fault of 'dies ', 0 is dead", Texts.fault(Made.by("maker 0 0 0;dies 0"), "fear 1;dies "), 12);
        SAID.is("fault of 'goes', no makers", Texts.fault(new NoneMayLeave(), "goes"), 4);
        SAID.says("of a NUMBER that may not be the place of its first digit.");
        bad("fear 100", 5);
        bad("fear 0100", 5);
        bad("fear 100;x", 5);
        bad("fear 100x", 5);
        bad("maker 0 11 5", 8);
        bad("maker 8", 6);
        bad("parts 04", 6);
        bad("knows 0 0005", 8);
        bad("fear 1;purse 1;fear 1000", 20);
    }
}
