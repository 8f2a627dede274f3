/** The document's terms, 3. WHAT COMES OF IT, sentence by sentence: shelves, rows and moves. */
public final class TermsRowsTest {
    private static final Said SAID = new Said("TermsRowsTest");

    private TermsRowsTest() {
    }

    public static void main(String[] args) {
        SAID.between("its upper 16 bits, no sign, modulo n.", "REFUSALS (the call answers");
        shelves();
        rows();
        lowestBits();
        asInts();
        moves();
        bodies();
        overriding();
        trace();
        SAID.end();
    }

    private static void shelves() {
        SAID.says("SHELVES 0 to 7 hold NOTHING (at first), a ROW, or a MAKER.");
        NoneMayLeave x = new NoneMayLeave();
        x.maker(0, 0, 0);
        for (int s = 0; s < 8; s++) {
            SAID.is("holds(" + s + ")", x.holds(s), -1);
            SAID.is("set on NOTHING", x.set(s, 0, 0), -3);
            SAID.is("row(" + s + ", 2, 1)", x.row(s, 2, 1), 1);
            SAID.is("holds(" + s + ")", x.holds(s), 102);
            SAID.is("show(" + s + ", 0)", x.show(s, 0), 1);
            SAID.is("holds(" + s + ")", x.holds(s), 0);
        }
        SAID.refused(Made::rich, "row(8, ..)", y -> y.row(8, 0, 0), -1);
        SAID.refused(Made::rich, "row(-1, ..)", y -> y.row(-1, 0, 0), -1);
        SAID.refused(Made::rich, "show(8, 0)", y -> y.show(8, 0), -1);
        SAID.quiet(Made::rich, "holds(8)", y -> y.holds(8), -1);
    }

    private static void rows() {
        SAID.says("A ROW has a SORT (0 bytes, 1 shorts, 2 ints, 3 longs) and 0 to 160 elements, 0 at first");
        for (int sort = 0; sort < 4; sort++) {
            NoneMayLeave x = new NoneMayLeave();
            SAID.is("row of sort " + sort, x.row(0, sort, 160), 1);
            SAID.is("holds", x.holds(0), 100 + sort);
            for (int i = 0; i < 160; i++) {
                SAID.is("element(0, " + i + ")", x.element(0, i), 0);
            }
            SAID.is("set(0, 159, 9)", x.set(0, 159, 9), 1);
            SAID.is("set(0, 160, 9)", x.set(0, 160, 9), -5);
            SAID.is("row again", x.row(0, sort, 160), 1);
            SAID.is("element(0, 159): 0 at first", x.element(0, 159), 0);
            SAID.is("row of none", x.row(0, sort, 0), 1);
            SAID.is("set(0, 0, 9)", x.set(0, 0, 9), -5);
        }
        SAID.refused(Made::rich, "row of sort 4", y -> y.row(0, 4, 0), -6);
        SAID.refused(Made::rich, "row of sort -1", y -> y.row(0, -1, 0), -6);
        SAID.refused(Made::rich, "row of 161", y -> y.row(0, 0, 161), -7);
        SAID.refused(Made::rich, "row of -1", y -> y.row(0, 0, -1), -4);
    }

    private static void kept(int sort, long v, long due) {
        NoneMayLeave x = new NoneMayLeave();
        x.row(0, sort, 2);
        SAID.is("set(0, 1, " + v + ") of sort " + sort, x.set(0, 1, v), 1);
        SAID.is("element(0, 1)", x.element(0, 1), due);
        SAID.is("element(0, 0)", x.element(0, 0), 0);
    }

    private static void lowestBits() {
        SAID.says("what is put in keeps its lowest bits.");
        kept(0, 127, 127);
        kept(0, 128, -128);
        kept(0, -129, 127);
        kept(0, 256, 0);
        kept(0, Long.MAX_VALUE, -1);
        kept(1, 32767, 32767);
        kept(1, 32768, -32768);
        kept(1, -32769, 32767);
        kept(1, 65536, 0);
        kept(1, Long.MIN_VALUE, 0);
        kept(2, 2147483647L, 2147483647L);
        kept(2, 2147483648L, -2147483648L);
        kept(2, -2147483649L, 2147483647L);
        kept(2, 1L << 32, 0);
        kept(3, Long.MAX_VALUE, Long.MAX_VALUE);
        kept(3, Long.MIN_VALUE, Long.MIN_VALUE);
        kept(3, 1L << 32, 1L << 32);
    }

    private static void asInts() {
        SAID.says("(As ints: of longs the lowest 32 bits.)");
        long high = 7L << 32;
        NoneMayLeave x = new NoneMayLeave();
        Texts.numbers(x, 0, 3, high + 1, high + 2, high, Long.MIN_VALUE);
        SAID.is("letter", x.letter(0, 4, 0), 7);
        SAID.is("keys", x.keys(0, 4, 7), 1);
        SAID.is("tries", x.tries(0, 0), 1);
        SAID.is("judge", x.judge(0, 1), 0);
        Texts.numbers(x, 0, 3, high + 8);
        SAID.is("letter of 8", x.letter(0, 1, 0), -6);
        Texts.numbers(x, 0, 3, (1L << 31) + 1);
        SAID.is("letter of a number below 0 by its lowest bits", x.letter(0, 1, 0), -6);
    }

    // ---- moves

    /** One of each kind, number and kind alike; a is the number and 2. */
    private static NoneMayLeave seven() {
        NoneMayLeave x = new NoneMayLeave();
        for (int kind = 0; kind < 7; kind++) {
            x.maker(kind, kind + 2, 0);
        }
        return x;
    }

    private static void act(int m, int move, int x, int due, int... trace) {
        NoneMayLeave y = seven();
        SAID.is("act(" + m + ", " + move + ", " + x + ")", y.act(m, move, x), due);
        for (int i = 0; i < trace.length; i++) {
            SAID.is("its trace(" + i + ")", y.trace(i), trace[i]);
        }
        SAID.is("its trace's end", y.trace(trace.length), -1);
        SAID.is("its status(9)", y.status(9), trace.length);
    }

    private static void moves() {
        SAID.says("MOVES of MAKERS, with x (wrapping): 0 blows, 1 sells, 2 hides; m the number, k its a.");
        int min = Integer.MIN_VALUE;
        int max = Integer.MAX_VALUE;
        act(2, 0, max, min + 1, 10);
        act(1, 0, max, min + 3, 20, 10);
        act(0, 1, max, -2, 11, 10);
        act(2, 1, 1 << 30, 12 - (1 << 31), 30, 11, 10);
        act(3, 1, max, (min + 3 + 5) * 2, 40, 11, 20, 10);
        act(0, 2, min, max - 1, 12, 11, 10, 10);
        act(4, 0, min, min, 51, 10);
        act(4, 2, 0, -(0 ^ -6), 50, 12, 11, 51, 10, 51, 10);
        act(6, 0, min, 0, 70, 51, 10);
        act(6, 1, min, -32, 71, 11, 70, 51, 10);
        for (int move : new int[] {3, -1, min, max}) {
            NoneMayLeave y = seven();
            SAID.is("act(0, " + move + ", 1)", y.act(0, move, 1), 0);
        }
        NoneMayLeave z = Made.plain(4, new int[8], new int[0]);
        SAID.is("act of the eighth", z.act(7, 0, 5), 12);
        SAID.is("act of the ninth", z.act(8, 0, 5), 0);
    }

    private static void bodies() {
        SAID.says("BODIES, each with its number: MAKER: 10 blows: x + m.");
        act(0, 0, 100, 100, 10);
        act(2, 0, 100, 102, 10);
        SAID.says("11 sells: blows(x) * 2.");
        act(0, 1, 100, 200, 11, 10);
        SAID.says("12 hides: sells(x) ^ blows(x - k).");
        act(0, 2, 100, 200 ^ 98, 12, 11, 10, 10);
        SAID.says("HUSBAND: 20 blows: super.blows(x) + k.");
        act(1, 0, 100, 101 + 3, 20, 10);
        SAID.says("DOUBLE: 30 sells: super.sells(x) * 3.");
        act(2, 1, 100, 102 * 2 * 3, 30, 11, 10);
        SAID.says("FATHER: 40 sells: super.sells(x + 1).");
        act(3, 1, 100, (101 + 3 + 5) * 2, 40, 11, 20, 10);
        SAID.says("FOUNDLING: 50 hides: -super.hides(x).");
        act(4, 2, 100, -(200 ^ 94), 50, 12, 11, 51, 10, 51, 10);
        SAID.says("51 blows: super.blows(x) - m.");
        act(4, 0, 100, 100, 51, 10);
        act(4, 0, -4, -4, 51, 10);
        SAID.says("SPY: 60 hides: super.hides(x) ^ 5.");
        act(5, 2, 100, 105 * 2 * 3 ^ 105 - 7 ^ 5, 60, 12, 30, 11, 10, 10);
        SAID.says("BOY: 70 blows: super.blows(x) * 2.");
        act(6, 0, 100, 200, 70, 51, 10);
        SAID.says("71 sells: super.sells(x - k).");
        act(6, 1, 100, 92 * 2 * 2, 71, 11, 70, 51, 10);
    }

    private static void overriding() {
        SAID.says("blows(..) and so on: the body of the MAKER's KIND, or of the next KIND above that has one");
        act(1, 1, 100, 104 * 2, 11, 20, 10);
        act(1, 2, 100, 208 ^ 101, 12, 11, 20, 10, 20, 10);
        act(2, 2, 100, 612 ^ 98, 12, 30, 11, 10, 10);
        act(3, 0, 100, 108, 20, 10);
        act(3, 2, 100, 218 ^ 103, 12, 40, 11, 20, 10, 20, 10);
        act(4, 1, 100, 200, 11, 51, 10);
        act(5, 0, 100, 105, 10);
        act(5, 1, 100, 630, 30, 11, 10);
        SAID.says("super: from the KIND above the body's on.");
        act(6, 2, 100, -(368 ^ 184), 50, 12, 71, 11, 70, 51, 10, 70, 51, 10);
        act(6, 1, 8, 0, 71, 11, 70, 51, 10);
    }

    private static void trace() {
        SAID.says("THE TRACE: the numbers of the bodies that ran in the latest act(), "
            + "in the order in which they began");
        NoneMayLeave x = seven();
        x.act(6, 2, 1);
        x.act(5, 2, 1);
        int[] due = {60, 12, 30, 11, 10, 10, -1, -1, -1, -1};
        for (int i = 0; i < due.length; i++) {
            SAID.is("trace(" + i + ") of the latest", x.trace(i), due[i]);
        }
        SAID.says("the first 20 are kept.");
        // The longest that a MOVE can run is ten bodies: so nothing is ever lost, and none stands behind them.
        x.act(6, 2, 1);
        int[] longest = {50, 12, 71, 11, 70, 51, 10, 70, 51, 10};
        for (int i = 0; i < longest.length; i++) {
            SAID.is("trace(" + i + ") of the longest", x.trace(i), longest[i]);
        }
        SAID.is("status(9)", x.status(9), 10);
        for (int i : new int[] {10, 11, 19, 20, 21, -1, Integer.MIN_VALUE, Integer.MAX_VALUE}) {
            SAID.is("trace(" + i + ")", x.trace(i), -1);
        }
    }
}
