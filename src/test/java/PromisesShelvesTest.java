import java.util.function.ToLongFunction;

/** Promises 1 to 8, sentence by sentence. */
public final class PromisesShelvesTest {
    private static final Said SAID = new Said("PromisesShelvesTest");
    private static final int A_MAKER = Made.A_MAKER;
    private static final int NOTHING = Made.NOTHING;
    private static final int BYTES = Made.BYTES;
    private static final int INTS = Made.INTS;

    private PromisesShelvesTest() {
    }

    public static void main(String[] args) {
        newObject();
        row();
        set();
        copy();
        copyRefused();
        element();
        show();
        holds();
        says();
        saysRefused();
        SAID.end();
    }

    private static void no(String call, ToLongFunction<NoneMayLeave> asks, int no) {
        SAID.refused(Made::rich, call, asks, no);
    }

    private static void newObject() {
        SAID.between("public final class NoneMayLeave {", "public NoneMayLeave();");
        SAID.says("public static final int NONE = -1;");
        SAID.is("NONE", NoneMayLeave.NONE, -1);
        SAID.promise(1);
        SAID.says("4 PARTS");
        SAID.is("status(1)", new NoneMayLeave().status(1), 4);
        SAID.is("abroad(1)", new NoneMayLeave().abroad(1), 15);
        SAID.says("no MAKERS.");
        SAID.is("status(0)", new NoneMayLeave().status(0), 0);
        SAID.refused(NoneMayLeave::new, "makerOf(0, 0)", x -> x.makerOf(0, 0), -5);
        NoneMayLeave other = new NoneMayLeave();
        other.maker(0, 0, 0);
        other.parts(8);
        SAID.is("status(0): each object has its own", new NoneMayLeave().status(0), 0);
        long[] due = {0, 4, 0, 0, 0, 0, 100, 0, 1, 0};
        for (int what = 0; what < due.length; what++) {
            SAID.is("status(" + what + ")", new NoneMayLeave().status(what), due[what]);
        }
    }

    private static void row() {
        SAID.promise(2);
        SAID.says("SHELF s holds a new ROW: 1.");
        NoneMayLeave x = Made.rich();
        for (int s = 0; s < 8; s++) {
            SAID.is("row(" + s + ", 1, 3)", x.row(s, 1, 3), 1);
            SAID.is("holds(" + s + ")", x.holds(s), 101);
            SAID.is("element(" + s + ", 0): a new one", x.element(s, 0), 0);
            SAID.is("set(" + s + ", 3, 1): of three", x.set(s, 3, 1), -5);
        }
        SAID.is("row of 160", x.row(0, 3, 160), 1);
        SAID.is("row of 0", x.row(1, 0, 0), 1);
        SAID.says("-1");
        no("row(-1, 9, -1)", y -> y.row(-1, 9, -1), -1);
        no("row(8, 9, 161)", y -> y.row(8, 9, 161), -1);
        SAID.says("-4");
        no("row(0, 9, -1)", y -> y.row(0, 9, -1), -4);
        no("row(0, 0, MIN)", y -> y.row(0, 0, Integer.MIN_VALUE), -4);
        SAID.says("-6 SORT");
        no("row(0, -1, 161)", y -> y.row(0, -1, 161), -6);
        no("row(0, 4, 161)", y -> y.row(0, 4, 161), -6);
        no("row(0, MAX, 0)", y -> y.row(0, Integer.MAX_VALUE, 0), -6);
        SAID.says("-7 n above 160");
        no("row(0, 0, 161)", y -> y.row(0, 0, 161), -7);
        no("row(0, 3, MAX)", y -> y.row(0, 3, Integer.MAX_VALUE), -7);
    }

    private static void set() {
        SAID.promise(3);
        SAID.says("Element i of the ROW becomes v: 1.");
        NoneMayLeave x = Made.rich();
        SAID.is("set(BYTES, 0, 7)", x.set(BYTES, 0, 7), 1);
        SAID.is("set(BYTES, 4, -8)", x.set(BYTES, 4, -8), 1);
        SAID.is("element(BYTES, 0)", x.element(BYTES, 0), 7);
        SAID.is("element(BYTES, 4)", x.element(BYTES, 4), -8);
        SAID.is("element(BYTES, 3): no other", x.element(BYTES, 3), 0);
        SAID.is("element(INTS, 0): no other", x.element(INTS, 0), 3);
        SAID.says("-1");
        no("set(8, -1, 0)", y -> y.set(8, -1, 0), -1);
        no("set(-1, 0, 0)", y -> y.set(-1, 0, 0), -1);
        SAID.says("-2");
        no("set(A_MAKER, -1, 0)", y -> y.set(A_MAKER, -1, 0), -2);
        SAID.says("-3");
        no("set(NOTHING, -1, 0)", y -> y.set(NOTHING, -1, 0), -3);
        SAID.says("-5");
        no("set(BYTES, -1, 0)", y -> y.set(BYTES, -1, 0), -5);
        no("set(BYTES, 5, 0)", y -> y.set(BYTES, 5, 0), -5);
        no("set(EMPTY, 0, 0)", y -> y.set(Made.EMPTY, 0, 0), -5);
    }

    private static NoneMayLeave twoRows() {
        NoneMayLeave x = new NoneMayLeave();
        Texts.numbers(x, 0, 2, 1, 2, 3, 4, 5);
        Texts.numbers(x, 1, 2, 6, 7, 8);
        return x;
    }

    private static void rowIs(NoneMayLeave x, int s, long... due) {
        for (int i = 0; i < due.length; i++) {
            SAID.is("element(" + s + ", " + i + ")", x.element(s, i), due[i]);
        }
    }

    private static void copied(int p, int q, int i, int j, int n, long... due) {
        NoneMayLeave x = twoRows();
        SAID.is("copy(" + p + ", " + q + ", " + i + ", " + j + ", " + n + ")", x.copy(p, q, i, j, n), 1);
        rowIs(x, q, due);
        if (p != q) {
            long[] from = p == 0 ? new long[] {1, 2, 3, 4, 5} : new long[] {6, 7, 8};
            rowIs(x, p, from);
        }
    }

    private static void copy() {
        SAID.promise(4);
        SAID.says("Elements i, i + 1, .. of the ROW in SHELF p, n of them, come to elements j, j + 1, .. of that in q");
        copied(0, 1, 1, 0, 2, 2, 3, 8);
        copied(0, 1, 2, 0, 3, 3, 4, 5);
        copied(1, 0, 0, 2, 3, 1, 2, 6, 7, 8);
        copied(1, 0, 2, 4, 1, 1, 2, 3, 4, 8);
        SAID.says("(as they were ahead)");
        copied(0, 0, 0, 1, 4, 1, 1, 2, 3, 4);
        copied(0, 0, 1, 0, 4, 2, 3, 4, 5, 5);
        copied(0, 0, 0, 2, 3, 1, 2, 1, 2, 3);
        copied(0, 0, 0, 0, 5, 1, 2, 3, 4, 5);
        SAID.says(": 1.");
        copied(0, 1, 0, 0, 0, 6, 7, 8);
        copied(0, 1, 5, 3, 0, 6, 7, 8);
        SAID.quiet(Made::rich, "copy(EMPTY, EMPTY, 0, 0, 0)", x -> x.copy(Made.EMPTY, Made.EMPTY, 0, 0, 0), 1);
    }

    private static void copyRefused() {
        SAID.says("-1");
        no("copy(8, A_MAKER, ..)", x -> x.copy(8, A_MAKER, -1, -1, -1), -1);
        no("copy(A_MAKER, -1, ..)", x -> x.copy(A_MAKER, -1, -1, -1, -1), -1);
        SAID.says("-2 also of two SORTS");
        no("copy(BYTES, INTS, ..)", x -> x.copy(BYTES, INTS, -1, -1, -1), -2);
        no("copy(INTS, BYTES, 0, 0, 0)", x -> x.copy(INTS, BYTES, 0, 0, 0), -2);
        no("copy(A_MAKER, BYTES, ..)", x -> x.copy(A_MAKER, BYTES, -1, -1, -1), -2);
        no("copy(BYTES, A_MAKER, ..)", x -> x.copy(BYTES, A_MAKER, -1, -1, -1), -2);
        no("copy(NOTHING, A_MAKER, ..)", x -> x.copy(NOTHING, A_MAKER, -1, -1, -1), -2);
        no("copy(A_MAKER, NOTHING, ..)", x -> x.copy(A_MAKER, NOTHING, -1, -1, -1), -2);
        no("copy(A_MAKER, A_MAKER, ..)", x -> x.copy(A_MAKER, A_MAKER, -1, -1, -1), -2);
        SAID.says("(when both hold something)");
        no("copy(INTS, NOTHING, ..)", x -> x.copy(INTS, NOTHING, -1, -1, -1), -3);
        no("copy(NOTHING, LONGS, ..)", x -> x.copy(NOTHING, Made.LONGS, -1, -1, -1), -3);
        SAID.refused(PromisesShelvesTest::onceInts, "copy to what held ints", x -> x.copy(0, 1, 0, 0, 0), -3);
        SAID.says("-3 either");
        no("copy(BYTES, NOTHING, ..)", x -> x.copy(BYTES, NOTHING, -1, -1, -1), -3);
        no("copy(NOTHING, BYTES, ..)", x -> x.copy(NOTHING, BYTES, -1, -1, -1), -3);
        no("copy(NOTHING, NOTHING, ..)", x -> x.copy(NOTHING, NOTHING, -1, -1, -1), -3);
        SAID.says("-4 n");
        no("copy(BYTES, BYTES, -1, -1, -1)", x -> x.copy(BYTES, BYTES, -1, -1, -1), -4);
        no("copy of MIN", x -> x.copy(BYTES, BYTES, 0, 0, Integer.MIN_VALUE), -4);
        SAID.says("-5 i or j below 0");
        no("copy(BYTES, BYTES, -1, 0, 0)", x -> x.copy(BYTES, BYTES, -1, 0, 0), -5);
        no("copy(BYTES, BYTES, 0, -1, 1)", x -> x.copy(BYTES, BYTES, 0, -1, 1), -5);
        no("copy from MIN", x -> x.copy(BYTES, BYTES, Integer.MIN_VALUE, 0, 2), -5);
        SAID.says("or an end that isn't there");
        SAID.refused(PromisesShelvesTest::twoRows, "copy(0, 1, 3, 0, 3)", x -> x.copy(0, 1, 3, 0, 3), -5);
        SAID.refused(PromisesShelvesTest::twoRows, "copy(0, 1, 0, 1, 3)", x -> x.copy(0, 1, 0, 1, 3), -5);
        SAID.refused(PromisesShelvesTest::twoRows, "copy(0, 1, 6, 0, 0)", x -> x.copy(0, 1, 6, 0, 0), -5);
        SAID.refused(PromisesShelvesTest::twoRows, "copy(0, 1, 0, 4, 0)", x -> x.copy(0, 1, 0, 4, 0), -5);
        no("copy from MAX", x -> x.copy(BYTES, BYTES, Integer.MAX_VALUE, 0, Integer.MAX_VALUE), -5);
        no("copy to MAX", x -> x.copy(BYTES, BYTES, 0, Integer.MAX_VALUE, 1), -5);
        no("copy of MAX", x -> x.copy(BYTES, BYTES, 1, 1, Integer.MAX_VALUE), -5);
    }

    private static NoneMayLeave onceInts() {
        NoneMayLeave x = twoRows();
        x.row(0, 1, 2);
        x.show(1, -1);
        return x;
    }

    private static void element() {
        SAID.promise(5);
        SAID.says("Element i of the ROW");
        SAID.quiet(PromisesShelvesTest::twoRows, "element(0, 0)", x -> x.element(0, 0), 1);
        SAID.quiet(PromisesShelvesTest::twoRows, "element(0, 4)", x -> x.element(0, 4), 5);
        NoneMayLeave y = new NoneMayLeave();
        Texts.numbers(y, 0, 3, Long.MIN_VALUE);
        SAID.is("element: all of a long", y.element(0, 0), Long.MIN_VALUE);
        SAID.says("0 if there is none");
        NoneMayLeave x = twoRows();
        x.row(1, 2, 1);
        SAID.is("element(1, 2) of a row of one", x.element(1, 2), 0);
        x.maker(0, 0, 9);
        x.show(0, 0);
        SAID.is("element(0, 0) of a maker", x.element(0, 0), 0);
        x.show(0, -1);
        SAID.is("element(0, 0) of nothing", x.element(0, 0), 0);
        Texts.numbers(x, 1, 2, 6, 7, 8);
        x.show(1, -1);
        SAID.is("element(1, 0) of nothing where a row was", x.element(1, 0), 0);
        SAID.is("element(1, 2) of nothing where a row was", x.element(1, 2), 0);
        SAID.says("(nothing is refused).");
        for (int s : new int[] {-1, 8, A_MAKER, NOTHING, Made.EMPTY, Integer.MIN_VALUE, Integer.MAX_VALUE}) {
            SAID.quiet(Made::rich, "element(" + s + ", 0)", z -> z.element(s, 0), 0);
        }
        for (int i : new int[] {-1, 5, 160, Integer.MIN_VALUE, Integer.MAX_VALUE}) {
            SAID.quiet(Made::rich, "element(BYTES, " + i + ")", z -> z.element(BYTES, i), 0);
        }
    }

    private static void show() {
        SAID.promise(6);
        SAID.says("SHELF s holds a MAKER, or NOTHING (maker NONE): 1, 0.");
        NoneMayLeave x = Made.rich();
        for (int s = 0; s < 8; s++) {
            SAID.is("show(" + s + ", 6)", x.show(s, 6), 1);
            SAID.is("holds(" + s + ")", x.holds(s), 6);
            SAID.is("show(" + s + ", 0)", x.show(s, 0), 1);
            SAID.is("holds(" + s + ")", x.holds(s), 0);
            SAID.is("show(" + s + ", NONE)", x.show(s, NoneMayLeave.NONE), 0);
            SAID.is("holds(" + s + ")", x.holds(s), -1);
            SAID.is("show(" + s + ", NONE) again", x.show(s, NoneMayLeave.NONE), 0);
        }
        SAID.is("show(0, NONE) of a new object", new NoneMayLeave().show(0, -1), 0);
        SAID.says("-1.");
        no("show(8, NONE)", y -> y.show(8, -1), -1);
        no("show(-1, 0)", y -> y.show(-1, 0), -1);
        no("show(0, 7)", y -> y.show(0, 7), -1);
        no("show(0, -2)", y -> y.show(0, -2), -1);
        SAID.refused(NoneMayLeave::new, "show(0, 0) of a new object", y -> y.show(0, 0), -1);
    }

    private static void holds() {
        SAID.promise(7);
        SAID.says("What SHELF s holds: NONE NOTHING, or no such SHELF");
        SAID.quiet(Made::rich, "holds(NOTHING)", x -> x.holds(NOTHING), -1);
        for (int s : new int[] {-1, 8, Integer.MIN_VALUE, Integer.MAX_VALUE}) {
            SAID.quiet(Made::rich, "holds(" + s + ")", x -> x.holds(s), -1);
        }
        SAID.says("a MAKER's number");
        SAID.quiet(Made::rich, "holds(A_MAKER)", x -> x.holds(A_MAKER), 1);
        SAID.quiet(Made::rich, "holds(A_DEAD)", x -> x.holds(Made.A_DEAD), 6);
        SAID.says("100 and the SORT of a ROW.");
        for (int sort = 0; sort < 4; sort++) {
            int s = sort;
            SAID.quiet(Made::rich, "holds(" + sort + ")", x -> x.holds(s), 100 + sort);
        }
        SAID.quiet(Made::rich, "holds(EMPTY)", x -> x.holds(Made.EMPTY), 100);
    }

    // ---- says

    /** One of each kind on the shelf of his number; 2 and 5 abroad, 1 has kin 0, 2, 3 and 6, 3 has kin 1 and 5; FEAR 7. */
    private static NoneMayLeave speakers() {
        NoneMayLeave x = new NoneMayLeave();
        for (int kind = 0; kind < 7; kind++) {
            x.maker(kind, 3, 10 + kind);
            x.show(kind, kind);
        }
        x.ask(0, 7);
        for (int m : new int[] {0, 2, 3, 6}) {
            x.kin(1, m, true);
        }
        x.kin(3, 5, true);
        x.bid(2, 13);
        x.bid(5, 3);
        return x;
    }

    private static void speaks(int s, int kind, int due) {
        SAID.quiet(PromisesShelvesTest::speakers, "says(" + s + ", " + kind + ")", x -> x.says(s, kind), due);
    }

    private static void says() {
        SAID.promise(8);
        SAID.says("What the MAKER in SHELF s, taken for one of a KIND, says: MAKER his WANT");
        for (int kind = 0; kind < 7; kind++) {
            speaks(kind, 0, 10 + kind);
        }
        SAID.says("HUSBAND, FATHER how many of his KIN are HOME");
        speaks(1, 1, 3);
        speaks(3, 1, 1);
        speaks(3, 3, 1);
        SAID.is("says: none of no kin", of(1).says(0, 1), 0);
        SAID.says("DOUBLE, SPY whether he is ABROAD (1, 0)");
        speaks(2, 2, 1);
        speaks(5, 2, 1);
        speaks(5, 5, 1);
        for (int kind : new int[] {2, 5}) {
            NoneMayLeave x = of(kind);
            SAID.is("says: at home", x.says(0, kind), 0);
            x.deed(0, 0);
            SAID.is("says: shut up", x.says(0, kind), 0);
            Texts.island(x, "dies 0");
            SAID.is("says: dead", x.says(0, kind), 0);
        }
        SAID.says("FOUNDLING, BOY his PRICE.");
        speaks(4, 4, 14 - 3 + 7);
        speaks(6, 4, 16 - 3 + 3);
        speaks(6, 6, 16 - 3 + 3);
    }

    private static NoneMayLeave of(int kind) {
        NoneMayLeave x = new NoneMayLeave();
        x.maker(kind, 0, 0);
        x.show(0, 0);
        return x;
    }

    private static void saysRefused() {
        SAID.says("-1 SHELF, KIND");
        no("says(8, 0)", x -> x.says(8, 0), -1);
        no("says(-1, 0)", x -> x.says(-1, 0), -1);
        no("says(BYTES, 7)", x -> x.says(BYTES, 7), -1);
        no("says(NOTHING, -1)", x -> x.says(NOTHING, -1), -1);
        no("says(A_MAKER, 7)", x -> x.says(A_MAKER, 7), -1);
        SAID.says("-2 also a MAKER of another KIND");
        no("says(BYTES, 0)", x -> x.says(BYTES, 0), -2);
        int[] under = {1, 1 | 2, 1 | 4, 1 | 2 | 8, 1 | 16, 1 | 4 | 32, 1 | 16 | 64};
        for (int s = 0; s < 7; s++) {
            for (int kind = 0; kind < 7; kind++) {
                int m = s;
                int as = kind;
                if ((under[s] >> kind & 1) == 0) {
                    SAID.refused(PromisesShelvesTest::speakers, "says(" + s + ", " + kind + ")", x -> x.says(m, as), -2);
                }
            }
        }
        SAID.says("-3.");
        no("says(NOTHING, 0)", x -> x.says(NOTHING, 0), -3);
        no("says(NOTHING, 6)", x -> x.says(NOTHING, 6), -3);
    }
}
