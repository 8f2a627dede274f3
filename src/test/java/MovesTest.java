/** Promises 41 and 42: act, trace. */
public final class MovesTest {
    private static final Due DUE = new Due("MovesTest");

    private MovesTest() {
    }

    public static void main(String[] args) {
        bodies();
        nobody();
        wraps();
        DUE.end();
    }

    /** One of each kind, by numbers; a is the number and 2. */
    private static NoneMayLeave seven() {
        NoneMayLeave x = new NoneMayLeave();
        for (int kind = 0; kind < 7; kind++) {
            x.maker(kind, kind + 2, 0);
        }
        return x;
    }

    private static void actIs(NoneMayLeave x, int m, int move, int due, int... trace) {
        DUE.is("act(" + m + ", " + move + ", 100)", x.act(m, move, 100), due);
        for (int i = 0; i < trace.length; i++) {
            DUE.is("maker " + m + " move " + move + ": trace(" + i + ")", x.trace(i), trace[i]);
        }
        DUE.is("maker " + m + " move " + move + ": the trace's end", x.trace(trace.length), -1);
        DUE.is("maker " + m + " move " + move + ": status(9)", x.status(9), trace.length);
        DUE.is("trace(-1)", x.trace(-1), -1);
    }

    private static void bodies() {
        NoneMayLeave x = seven();
        actIs(x, 0, 0, 100, 10);
        actIs(x, 0, 1, 200, 11, 10);
        actIs(x, 0, 2, 200 ^ 98, 12, 11, 10, 10);
        actIs(x, 1, 0, 104, 20, 10);
        actIs(x, 1, 1, 208, 11, 20, 10);
        actIs(x, 1, 2, 208 ^ 101, 12, 11, 20, 10, 20, 10);
        actIs(x, 2, 0, 102, 10);
        actIs(x, 2, 1, 612, 30, 11, 10);
        actIs(x, 2, 2, 612 ^ 98, 12, 30, 11, 10, 10);
        actIs(x, 3, 0, 108, 20, 10);
        actIs(x, 3, 1, 218, 40, 11, 20, 10);
        actIs(x, 3, 2, 218 ^ 103, 12, 40, 11, 20, 10, 20, 10);
        actIs(x, 4, 0, 100, 51, 10);
        actIs(x, 4, 1, 200, 11, 51, 10);
        actIs(x, 4, 2, -(200 ^ 94), 50, 12, 11, 51, 10, 51, 10);
        actIs(x, 5, 0, 105, 10);
        actIs(x, 5, 1, 630, 30, 11, 10);
        actIs(x, 5, 2, 630 ^ 98 ^ 5, 60, 12, 30, 11, 10, 10);
        actIs(x, 6, 0, 200, 70, 51, 10);
        actIs(x, 6, 1, 368, 71, 11, 70, 51, 10);
        actIs(x, 6, 2, -(368 ^ 184), 50, 12, 71, 11, 70, 51, 10, 70, 51, 10);
    }

    private static void nobody() {
        NoneMayLeave x = seven();
        x.act(6, 2, 1);
        DUE.is("act: no maker", x.act(7, 0, 5), 0);
        DUE.is("no trace then", x.trace(0), -1);
        DUE.is("status(9)", x.status(9), 0);
        x.act(6, 2, 1);
        DUE.is("act: no maker", x.act(-1, 0, 5), 0);
        DUE.is("no trace then", x.trace(0), -1);
        x.act(6, 2, 1);
        DUE.is("act: no move", x.act(0, 3, 5), 0);
        DUE.is("no trace then", x.trace(0), -1);
        x.act(6, 2, 1);
        DUE.is("act: no move", x.act(0, -1, 5), 0);
        DUE.is("no trace then", x.trace(0), -1);
        DUE.is("status(9)", x.status(9), 0);
        DUE.is("trace(20)", x.trace(20), -1);
        for (int what = 11; what <= 17; what++) {
            DUE.is("nothing is refused", x.status(what), 0);
        }
    }

    private static void wraps() {
        NoneMayLeave x = seven();
        DUE.is("act: wraps", x.act(2, 0, Integer.MAX_VALUE), Integer.MIN_VALUE + 1);
        DUE.is("act: wraps", x.act(0, 1, 1 << 30), Integer.MIN_VALUE);
        DUE.is("act: wraps", x.act(2, 1, Integer.MAX_VALUE), (Integer.MIN_VALUE + 1) * 6);
        DUE.is("act: where he is doesn't matter", Texts.island(x, "dies 0"), 1);
        DUE.is("act: the dead", x.act(0, 0, 8), 8);
    }
}
