import java.util.function.ToLongFunction;

/** Promises 9 to 16, sentence by sentence. */
public final class PromisesIslandTest {
    private static final Said SAID = new Said("PromisesIslandTest");

    private PromisesIslandTest() {
    }

    public static void main(String[] args) {
        maker();
        parts();
        knows();
        kin();
        ask();
        makerOf();
        island();
        fault();
        SAID.end();
    }

    private static void no(String call, ToLongFunction<NoneMayLeave> asks, int no) {
        SAID.refused(Made::rich, call, asks, no);
    }

    private static NoneMayLeave eight() {
        return Made.plain(4, new int[8], new int[0]);
    }

    private static void maker() {
        SAID.promise(9);
        SAID.says("A MAKER: the number.");
        NoneMayLeave x = new NoneMayLeave();
        for (int m = 0; m < 8; m++) {
            SAID.is("maker", x.maker(m % 7, m, 10 * m), m);
            SAID.is("makerOf(" + m + ", 0)", x.makerOf(m, 0), m % 7);
            SAID.is("makerOf(" + m + ", 1)", x.makerOf(m, 1), m);
            SAID.is("makerOf(" + m + ", 2)", x.makerOf(m, 2), 10 * m);
            SAID.is("status(0)", x.status(0), m + 1);
        }
        SAID.says("-1 KIND");
        no("maker(-1, -1, -1)", y -> y.maker(-1, -1, -1), -1);
        no("maker(7, 0, 0)", y -> y.maker(7, 0, 0), -1);
        SAID.refused(PromisesIslandTest::eight, "maker(7, 0, 0) of eight", y -> y.maker(7, 0, 0), -1);
        SAID.says("-6");
        no("maker(0, -1, 0)", y -> y.maker(0, -1, 0), -6);
        no("maker(0, 10, 0)", y -> y.maker(0, 10, 0), -6);
        no("maker(0, 0, -1)", y -> y.maker(0, 0, -1), -6);
        no("maker(0, 0, 100)", y -> y.maker(0, 0, 100), -6);
        SAID.refused(PromisesIslandTest::eight, "maker(6, 10, 0) of eight", y -> y.maker(6, 10, 0), -6);
        SAID.refused(PromisesIslandTest::eight, "maker(6, 0, 100) of eight", y -> y.maker(6, 0, 100), -6);
        SAID.says("-7.");
        SAID.refused(PromisesIslandTest::eight, "maker(6, 9, 99) of eight", y -> y.maker(6, 9, 99), -7);
        SAID.refused(() -> Made.by("maker 0 0 0;maker 0 0 0;maker 0 0 0;maker 0 0 0",
            "maker 0 0 0;maker 0 0 0;maker 0 0 0;maker 0 0 0"), "maker(0, 0, 0) of eight", y -> y.maker(0, 0, 0), -7);
    }

    private static void parts() {
        SAID.promise(10);
        SAID.says("n PARTS: how many there were.");
        NoneMayLeave x = new NoneMayLeave();
        SAID.is("parts(4)", x.parts(4), 4);
        SAID.is("parts(6)", x.parts(6), 4);
        SAID.is("status(1)", x.status(1), 6);
        SAID.is("parts(8)", x.parts(8), 6);
        SAID.is("parts(8)", x.parts(8), 8);
        SAID.is("status(1)", x.status(1), 8);
        SAID.says("-6 also fewer than there are.");
        for (int n : new int[] {3, 1, 0, -1, 9, Integer.MIN_VALUE, Integer.MAX_VALUE}) {
            no("parts(" + n + ")", y -> y.parts(n), -6);
        }
        SAID.is("parts(7) of 8", x.parts(7), -6);
        SAID.is("parts(9) of 8", x.parts(9), -6);
    }

    private static void knows() {
        SAID.promise(11);
        SAID.says("A MAKER KNOWS a PART, or doesn't: whether he did (1, 0).");
        NoneMayLeave x = Made.rich();
        SAID.is("knows(1, 3, true)", x.knows(1, 3, true), 0);
        SAID.is("knows(1, 3, true) again", x.knows(1, 3, true), 1);
        SAID.is("makerOf(1, 3)", x.makerOf(1, 3), 2 | 8);
        SAID.is("knows(1, 1, false)", x.knows(1, 1, false), 1);
        SAID.is("knows(1, 1, false) again", x.knows(1, 1, false), 0);
        SAID.is("makerOf(1, 3)", x.makerOf(1, 3), 8);
        SAID.is("knows(1, 0, true)", x.knows(1, 0, true), 0);
        SAID.is("makerOf(1, 3)", x.makerOf(1, 3), 9);
        SAID.is("makerOf(2, 3): nobody else", x.makerOf(2, 3), 4);
        SAID.is("knows(6, 2, ..): whoever is dead", x.knows(6, 2, false), 1);
        SAID.says("-1");
        no("knows(7, 4, true)", y -> y.knows(7, 4, true), -1);
        no("knows(-1, 0, true)", y -> y.knows(-1, 0, true), -1);
        SAID.says("-6 no PART.");
        for (int part : new int[] {4, -1, 8, 31, 32, Integer.MIN_VALUE, Integer.MAX_VALUE}) {
            no("knows(0, " + part + ", true)", y -> y.knows(0, part, true), -6);
            no("knows(0, " + part + ", false)", y -> y.knows(0, part, false), -6);
        }
    }

    private static void kin() {
        SAID.promise(12);
        SAID.says("Two MAKERS are KIN, or aren't: whether they were (1, 0).");
        NoneMayLeave x = Made.rich();
        SAID.is("kin(0, 2, true)", x.kin(0, 2, true), 0);
        SAID.is("kin(2, 0, true)", x.kin(2, 0, true), 1);
        SAID.is("makerOf(0, 4)", x.makerOf(0, 4), 2 | 4);
        SAID.is("makerOf(2, 4)", x.makerOf(2, 4), 1);
        SAID.is("kin(2, 0, false)", x.kin(2, 0, false), 1);
        SAID.is("kin(0, 2, false)", x.kin(0, 2, false), 0);
        SAID.is("makerOf(0, 4)", x.makerOf(0, 4), 2);
        SAID.is("makerOf(2, 4)", x.makerOf(2, 4), 0);
        SAID.is("kin(0, 1, true): they were", x.kin(0, 1, true), 1);
        SAID.is("kin(3, 1, false): they were", x.kin(3, 1, false), 1);
        SAID.is("kin(5, 4, false): they were", x.kin(5, 4, false), 1);
        SAID.is("kin(5, 6, false): they weren't", x.kin(5, 6, false), 0);
        SAID.says("-1");
        no("kin(7, 7, true)", y -> y.kin(7, 7, true), -1);
        no("kin(-1, -1, true)", y -> y.kin(-1, -1, true), -1);
        no("kin(0, 7, true)", y -> y.kin(0, 7, true), -1);
        no("kin(-1, 0, false)", y -> y.kin(-1, 0, false), -1);
        SAID.says("-6 the same.");
        for (int m = 0; m < 7; m++) {
            int same = m;
            no("kin(" + m + ", " + m + ", true)", y -> y.kin(same, same, true), -6);
        }
        no("kin(1, 1, false)", y -> y.kin(1, 1, false), -6);
    }

    private static void ask() {
        SAID.promise(13);
        SAID.says("FEAR (what 0), PURSE (1) becomes v: what it was.");
        NoneMayLeave x = Made.rich();
        SAID.is("ask(0, 0)", x.ask(0, 0), 15);
        SAID.is("ask(0, 99)", x.ask(0, 99), 0);
        SAID.is("status(5)", x.status(5), 99);
        SAID.is("status(6): not this one", x.status(6), 431);
        SAID.is("ask(1, 0)", x.ask(1, 0), 431);
        SAID.is("ask(1, 9999)", x.ask(1, 9999), 0);
        SAID.is("status(6)", x.status(6), 9999);
        SAID.is("status(5): not this one", x.status(5), 99);
        SAID.says("-6.");
        no("ask(0, 100)", y -> y.ask(0, 100), -6);
        no("ask(0, -1)", y -> y.ask(0, -1), -6);
        no("ask(1, 10000)", y -> y.ask(1, 10000), -6);
        no("ask(1, -1)", y -> y.ask(1, -1), -6);
        no("ask(2, 0)", y -> y.ask(2, 0), -6);
        no("ask(-1, 0)", y -> y.ask(-1, 0), -6);
        no("ask(MAX, MAX)", y -> y.ask(Integer.MAX_VALUE, Integer.MAX_VALUE), -6);
    }

    private static void makerOf() {
        SAID.promise(14);
        SAID.says("Of a MAKER: 0 KIND, 1 a, 2 WANT, 3 KNOWS (bits), 4 KIN (bits), 5 PLACE, 6 PRICE.");
        int[][] due = {
            {0, 1, 10, 1, 2, 0, 25},
            {1, 2, 20, 2, 1 | 8, 0, 45},
            {2, 3, 30, 4, 0, 0, 30},
            {3, 4, 40, 8, 2, 0, 72},
            {4, 5, 50, 1, 32, 2, 60},
            {5, 6, 60, 2, 16, 1, 6},
            {6, 7, 70, 4, 0, 3, 70}};
        for (int m = 0; m < 7; m++) {
            for (int what = 0; what < 7; what++) {
                int who = m;
                int of = what;
                SAID.quiet(Made::rich, "makerOf(" + m + ", " + what + ")", x -> x.makerOf(who, of), due[m][what]);
            }
        }
        SAID.says("-5: no such one, another what.");
        no("makerOf(7, 0)", x -> x.makerOf(7, 0), -5);
        no("makerOf(-1, 0)", x -> x.makerOf(-1, 0), -5);
        no("makerOf(0, 7)", x -> x.makerOf(0, 7), -5);
        no("makerOf(0, -1)", x -> x.makerOf(0, -1), -5);
        no("makerOf(9, 9)", x -> x.makerOf(9, 9), -5);
        SAID.refused(NoneMayLeave::new, "makerOf(0, 0) of a new object", x -> x.makerOf(0, 0), -5);
    }

    private static NoneMayLeave withText(String text) {
        NoneMayLeave x = Made.rich();
        Texts.letters(x, 0, text);
        return x;
    }

    private static void island() {
        SAID.promise(15);
        SAID.says("An ISLAND by the ROW in SHELF s: how many ITEMS.");
        SAID.is("island(0): one", withText("fear 1").island(0), 1);
        SAID.is("island(0): two", withText("fear 1;fear 2").island(0), 2);
        SAID.is("island(0): twice", again(), 3);
        SAID.is("status(0): both times", twice().status(0), 8);
        SAID.says("-1");
        no("island(8)", x -> x.island(8), -1);
        no("island(-1)", x -> x.island(-1), -1);
        SAID.says("-2");
        no("island(A_MAKER)", x -> x.island(Made.A_MAKER), -2);
        no("island(A_DEAD)", x -> x.island(Made.A_DEAD), -2);
        SAID.says("-3");
        no("island(NOTHING)", x -> x.island(Made.NOTHING), -3);
        SAID.says("-6 a FAULT.");
        no("island(EMPTY)", x -> x.island(Made.EMPTY), -6);
        SAID.refused(() -> withText("z;maker 0 0 0;fear 2"), "island(0)", x -> x.island(0), -6);
        SAID.is("island(0): none of it", withText("fear 2;").island(0), -6);
    }

    private static int again() {
        NoneMayLeave x = withText("fear 1;maker 0 0 0;purse 4");
        return x.island(0);
    }

    private static NoneMayLeave twice() {
        NoneMayLeave x = new NoneMayLeave();
        Texts.letters(x, 0, "maker 0 0 0;maker 0 0 0;maker 0 0 0;maker 0 0 0");
        SAID.is("island(0)", x.island(0), 4);
        SAID.is("island(0) again", x.island(0), 4);
        SAID.is("island(0): no room now", x.island(0), -6);
        return x;
    }

    private static void fault() {
        SAID.promise(16);
        SAID.says("The FAULT of the latest island() that came to a ROW");
        NoneMayLeave x = withText("fear 1;fear 100");
        x.island(0);
        SAID.is("fault()", x.fault(), 12);
        x.island(8);
        x.island(Made.A_MAKER);
        x.island(Made.NOTHING);
        SAID.is("fault(): the others came to no row", x.fault(), 12);
        x.island(Made.EMPTY);
        SAID.is("fault(): the latest", x.fault(), 0);
        SAID.is("fault(): of a restored one", x.restore() < 0 ? -9 : x.fault(), 0);
        SAID.says("NONE: there was none, or none yet.");
        SAID.is("fault(): none yet", new NoneMayLeave().fault(), -1);
        NoneMayLeave y = new NoneMayLeave();
        y.island(0);
        y.island(-1);
        SAID.is("fault(): none yet", y.fault(), -1);
        NoneMayLeave z = withText("fear 1");
        SAID.is("fault(): of one before", z.fault(), 0);
        z.island(0);
        SAID.is("fault(): there was none", z.fault(), -1);
    }
}
