/** Promises 15 and 16: island, fault. */
public final class IslandTextTest {
    private static final Due DUE = new Due("IslandTextTest");

    private IslandTextTest() {
    }

    public static void main(String[] args) {
        reads();
        sorts();
        refusals();
        words();
        numbers();
        places();
        room();
        allOrNothing();
        DUE.end();
    }

    /** Makers 0 (HOME), 1 (ABROAD), 2 (SHUT up), 3 (DEAD); 5 PARTS. */
    private static NoneMayLeave four() {
        NoneMayLeave x = new NoneMayLeave();
        DUE.is("the island of four", Texts.island(x,
            "parts 5;maker 0 1 2;maker 1 2 3;maker 2 3 4;maker 3 4 5;goes 1;dies 3"), 7);
        x.deed(2, 0);
        return x;
    }

    private static void faultIs(NoneMayLeave x, String text, int due) {
        DUE.is("island of '" + text + "'", Texts.island(x, text), -6);
        DUE.is("fault of '" + text + "'", x.fault(), due);
    }

    private static void goodIs(NoneMayLeave x, String text, int items) {
        DUE.is("island of '" + text + "'", Texts.island(x, text), items);
        DUE.is("fault of '" + text + "'", x.fault(), -1);
    }

    private static void reads() {
        NoneMayLeave x = new NoneMayLeave();
        goodIs(x, "maker 3 4 55;maker 6 0 7;knows 0 0;knows 0 3;kin 1 0;fear 12;purse 345;parts 8;goes 1", 9);
        long[] due = {3, 4, 55, 9, 2, 0, 55 + 12 + 12};
        for (int what = 0; what <= 6; what++) {
            DUE.is("makerOf(0, " + what + ")", x.makerOf(0, what), due[what]);
        }
        DUE.is("makerOf(1, 5)", x.makerOf(1, 5), 1);
        DUE.is("makerOf(1, 4)", x.makerOf(1, 4), 1);
        DUE.is("status(1)", x.status(1), 8);
        DUE.is("status(5)", x.status(5), 12);
        DUE.is("status(6)", x.status(6), 345);
        goodIs(x, "knows 1 7;knows 1 7;kin 0 1;maker 0 0 0;dies 1;dies 0", 6);
        DUE.is("makerOf(1, 3)", x.makerOf(1, 3), 128);
        DUE.is("status(0)", x.status(0), 3);
        DUE.is("status(3)", x.status(3), 0);
        DUE.is("status(4)", x.status(4), 2);
        DUE.is("who dies by a text frightens nobody", x.status(5), 12);
        DUE.is("the purse pays nothing for who goes by a text", x.status(6), 345);
    }

    private static void sorts() {
        for (int sort = 0; sort < 4; sort++) {
            NoneMayLeave x = new NoneMayLeave();
            String text = "fear 42";
            x.row(0, sort, text.length());
            for (int i = 0; i < text.length(); i++) {
                x.set(0, i, (sort == 3 ? 5L << 32 : 0L) + text.charAt(i));
            }
            DUE.is("island of sort " + sort, x.island(0), 1);
            DUE.is("status(5)", x.status(5), 42);
        }
        NoneMayLeave x = new NoneMayLeave();
        Texts.numbers(x, 0, 1, 256 + 'f', 'e', 'a', 'r', ' ', '1');
        DUE.is("island: a sign that is no letter", x.island(0), -6);
        DUE.is("fault()", x.fault(), 0);
    }

    private static void refusals() {
        NoneMayLeave x = four();
        x.show(0, 0);
        faultIs(x, "fear 1!", 6);
        DUE.is("island: no shelf", x.island(8), -1);
        DUE.is("island: no shelf", x.island(-1), -1);
        DUE.is("island: a maker", x.island(0), -2);
        DUE.is("island: nothing", x.island(1), -3);
        DUE.is("fault: of the latest that came to a row", x.fault(), 6);
        goodIs(x, "fear 1", 1);
        x.island(1);
        DUE.is("fault: none of the latest that came to a row", x.fault(), -1);
        DUE.is("status(11)", x.status(11), 2);
        DUE.is("status(12)", x.status(12), 1);
        DUE.is("status(13)", x.status(13), 2);
        DUE.is("status(16)", x.status(16), 1);
    }

    private static void words() {
        NoneMayLeave x = four();
        faultIs(x, "", 0);
        faultIs(x, ";", 0);
        faultIs(x, " fear 1", 0);
        faultIs(x, "Fear 1", 0);
        faultIs(x, "p", 1);
        faultIs(x, "pe", 1);
        faultIs(x, "pa", 2);
        faultIs(x, "pux", 2);
        faultIs(x, "part 5", 4);
        faultIs(x, "pursa", 4);
        faultIs(x, "ki", 2);
        faultIs(x, "kn", 2);
        faultIs(x, "kix", 2);
        faultIs(x, "kinx", 3);
        faultIs(x, "kin", 3);
        faultIs(x, "fear", 4);
        faultIs(x, "fear;", 4);
        faultIs(x, "fear1", 4);
        faultIs(x, "maker 0 0,0", 9);
        faultIs(x, "fear 1fear 1", 6);
        faultIs(x, "fear 1;", 7);
        faultIs(x, "fear 1; fear 1", 7);
        faultIs(x, "fear 1;;", 7);
        faultIs(x, "fear 1;fear 1;goe", 17);
        faultIs(x, "fear 1 ", 6);
        faultIs(x, "fear 1 2", 6);
        faultIs(x, "fear 1,fear 2", 6);
        faultIs(x, "maker 0 0;", 9);
        faultIs(x, "maker 0 0", 9);
        faultIs(x, "maker 0", 7);
        faultIs(x, "maker 0 0 0 0", 11);
        faultIs(x, "make", 4);
    }

    private static void numbers() {
        NoneMayLeave x = four();
        faultIs(x, "fear ", 5);
        faultIs(x, "fear  1", 5);
        faultIs(x, "fear -1", 5);
        faultIs(x, "fear 100", 5);
        faultIs(x, "fear 100x", 5);
        faultIs(x, "fear 0100", 5);
        faultIs(x, "fear 00001", 9);
        faultIs(x, "fear 12345", 5);
        goodIs(x, "fear 0001", 1);
        goodIs(x, "fear 0;fear 99", 2);
        goodIs(x, "purse 9999", 1);
        goodIs(x, "purse 0000", 1);
        faultIs(x, "purse 10000", 10);
        faultIs(x, "purse 99999;", 10);
        faultIs(x, "parts 4", 6);
        faultIs(x, "parts 0", 6);
        faultIs(x, "parts 9", 6);
        goodIs(x, "parts 5;parts 08;parts 8", 3);
        faultIs(x, "parts 7", 6);
        faultIs(x, "maker 7 0 0", 6);
        faultIs(x, "maker 7", 6);
        faultIs(x, "maker 6 10 0", 8);
        faultIs(x, "maker 6 9 100", 10);
        goodIs(x, "maker 6 9 99", 1);
        DUE.is("status(0)", x.status(0), 5);
    }

    private static void places() {
        NoneMayLeave x = four();
        faultIs(x, "knows 4 0", 6);
        faultIs(x, "knows 0 5", 8);
        goodIs(x, "knows 0 4;parts 6;knows 0 5", 3);
        faultIs(x, "kin 4 0", 4);
        faultIs(x, "kin 0 4", 6);
        faultIs(x, "kin 0 0", 6);
        faultIs(x, "kin 2 02", 6);
        goodIs(x, "kin 2 3", 1);
        faultIs(x, "goes 4", 5);
        faultIs(x, "goes 1", 5);
        faultIs(x, "goes 2", 5);
        faultIs(x, "goes 3", 5);
        faultIs(x, "goes 0;goes 0", 12);
        faultIs(x, "dies 4", 5);
        faultIs(x, "dies 3", 5);
        faultIs(x, "dies 2;dies 2", 12);
        goodIs(x, "goes 0;dies 0;dies 1;dies 2", 4);
        DUE.is("status(4)", x.status(4), 4);
        NoneMayLeave y = new NoneMayLeave();
        faultIs(y, "goes 0", 5);
        faultIs(y, "knows 0 0", 6);
        goodIs(y, "maker 0 0 0;goes 0", 2);
    }

    private static void room() {
        NoneMayLeave x = new NoneMayLeave();
        for (int i = 0; i < 7; i++) {
            x.maker(0, 0, 0);
        }
        faultIs(x, "maker 0 0 0;maker 0 0 0", 12);
        faultIs(x, "maker 0 0 0;maker", 12);
        faultIs(x, "maker 0 0 0;make", 16);
        faultIs(x, "maker 0 0 0;makex", 16);
        faultIs(x, "maker 0 0 0;maker!", 12);
        faultIs(x, "maker 0 0 0;m", 13);
        goodIs(x, "maker 0 0 0", 1);
        faultIs(x, "maker 9 9 9", 0);
        DUE.is("status(0)", x.status(0), 8);
    }

    private static void allOrNothing() {
        NoneMayLeave x = four();
        x.seed(77);
        faultIs(x, "parts 8;maker 0 0 0;knows 0 0;kin 0 1;fear 9;purse 9;goes 0;dies 2;x", 67);
        DUE.is("status(0)", x.status(0), 4);
        DUE.is("status(1)", x.status(1), 5);
        DUE.is("status(2)", x.status(2), 1);
        DUE.is("status(3)", x.status(3), 1);
        DUE.is("status(4)", x.status(4), 1);
        DUE.is("status(5)", x.status(5), 5);
        DUE.is("status(6)", x.status(6), 100);
        DUE.is("status(8)", x.status(8), 77);
        DUE.is("makerOf(0, 3)", x.makerOf(0, 3), 0);
        DUE.is("makerOf(0, 4)", x.makerOf(0, 4), 0);
        DUE.is("makerOf(1, 4)", x.makerOf(1, 4), 0);
        StringBuilder b = new StringBuilder("fear 0001");
        while (b.length() < 153) {
            b.append(";kin 0 1");
        }
        b.append(";fear 7".substring(0, 160 - b.length()));
        goodIs(x, b.toString().substring(0, 153), 19);
        faultIs(x, b.toString().substring(0, 159), 159);
        goodIs(x, b.toString(), 20);
    }
}
