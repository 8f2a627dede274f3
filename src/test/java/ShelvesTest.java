/** Promises 1 to 8: a new object, row, set, copy, element, show, holds, says. */
public final class ShelvesTest {
    private static final Due DUE = new Due("ShelvesTest");

    private ShelvesTest() {
    }

    public static void main(String[] args) {
        newObject();
        row();
        set();
        copy();
        copyRefused();
        element();
        showAndHolds();
        says();
        DUE.end();
    }

    private static void newObject() {
        NoneMayLeave x = new NoneMayLeave();
        DUE.is("NONE", NoneMayLeave.NONE, -1);
        long[] due = {0, 4, 0, 0, 0, 0, 100, 0, 1, 0, -1, 0, 0, 0, 0, 0, 0, 0, -1};
        for (int what = 0; what < due.length; what++) {
            DUE.is("new: status(" + what + ")", x.status(what), due[what]);
        }
        for (int s = 0; s < 8; s++) {
            DUE.is("new: holds(" + s + ")", x.holds(s), -1);
        }
        DUE.is("new: fault()", x.fault(), -1);
        DUE.is("new: trace(0)", x.trace(0), -1);
        DUE.is("new: makerOf(0, 0)", x.makerOf(0, 0), -5);
    }

    private static void row() {
        NoneMayLeave x = new NoneMayLeave();
        DUE.is("row(-1, ..)", x.row(-1, 0, 1), -1);
        DUE.is("row(8, ..): ahead of the rest", x.row(8, 9, -1), -1);
        DUE.is("row: size below 0 ahead of the sort", x.row(0, 9, -1), -4);
        DUE.is("row: sort -1", x.row(0, -1, 0), -6);
        DUE.is("row: sort 4 ahead of room", x.row(0, 4, 161), -6);
        DUE.is("row: 161", x.row(0, 3, 161), -7);
        DUE.is("row: refused, so nothing", x.holds(0), -1);
        DUE.is("row: 160", x.row(7, 3, 160), 1);
        DUE.is("holds: longs", x.holds(7), 103);
        DUE.is("set: last of 160", x.set(7, 159, 5), 1);
        DUE.is("element: last of 160", x.element(7, 159), 5);
        DUE.is("row: anew", x.row(7, 2, 160), 1);
        DUE.is("element: 0 at first", x.element(7, 159), 0);
        DUE.is("row: none", x.row(7, 0, 0), 1);
        DUE.is("holds: bytes", x.holds(7), 100);
        DUE.is("set: none there", x.set(7, 0, 1), -5);
        DUE.is("status(11)", x.status(11), 2);
        DUE.is("status(14)", x.status(14), 1);
        DUE.is("status(16)", x.status(16), 2);
        DUE.is("status(17)", x.status(17), 1);
    }

    private static void kept(NoneMayLeave x, long v, long due) {
        DUE.is("set(0, 0, " + v + ")", x.set(0, 0, v), 1);
        DUE.is("element(0, 0)", x.element(0, 0), due);
    }

    private static void set() {
        NoneMayLeave x = new NoneMayLeave();
        x.row(0, 0, 2);
        kept(x, 127, 127);
        kept(x, 128, -128);
        kept(x, 255, -1);
        kept(x, 256, 0);
        x.row(0, 1, 2);
        kept(x, 32767, 32767);
        kept(x, 32768, -32768);
        kept(x, 65536 + 7, 7);
        x.row(0, 2, 2);
        kept(x, 2147483647L, 2147483647L);
        kept(x, 2147483648L, -2147483648L);
        kept(x, (1L << 32) + 9, 9);
        x.row(0, 3, 2);
        kept(x, Long.MIN_VALUE, Long.MIN_VALUE);
        kept(x, Long.MAX_VALUE, Long.MAX_VALUE);
        DUE.is("element(0, 1): not touched", x.element(0, 1), 0);
        x.maker(0, 0, 0);
        x.show(1, 0);
        DUE.is("set: no shelf", x.set(8, 0, 1), -1);
        DUE.is("set: no shelf", x.set(-1, 9, 1), -1);
        DUE.is("set: a maker", x.set(1, 0, 1), -2);
        DUE.is("set: nothing", x.set(2, 0, 1), -3);
        DUE.is("set: element -1", x.set(0, -1, 1), -5);
        DUE.is("set: element 2 of 2", x.set(0, 2, 1), -5);
        DUE.is("status(15)", x.status(15), 2);
    }

    private static void copy() {
        NoneMayLeave x = new NoneMayLeave();
        Texts.numbers(x, 0, 2, 1, 2, 3, 4, 5);
        x.row(1, 2, 3);
        DUE.is("copy to another", x.copy(0, 1, 2, 1, 2), 1);
        long[] due = {0, 3, 4};
        for (int i = 0; i < 3; i++) {
            DUE.is("element(1, " + i + ")", x.element(1, i), due[i]);
        }
        DUE.is("copy onto itself, up", x.copy(0, 0, 0, 1, 4), 1);
        long[] up = {1, 1, 2, 3, 4};
        for (int i = 0; i < 5; i++) {
            DUE.is("up: element(0, " + i + ")", x.element(0, i), up[i]);
        }
        DUE.is("copy onto itself, down", x.copy(0, 0, 2, 0, 3), 1);
        long[] down = {2, 3, 4, 3, 4};
        for (int i = 0; i < 5; i++) {
            DUE.is("down: element(0, " + i + ")", x.element(0, i), down[i]);
        }
        DUE.is("copy none, at the ends", x.copy(0, 1, 5, 3, 0), 1);
    }

    private static void copyRefused() {
        NoneMayLeave x = new NoneMayLeave();
        x.maker(0, 0, 0);
        x.row(0, 2, 5);
        x.row(1, 2, 3);
        x.row(2, 3, 3);
        x.show(3, 0);
        DUE.is("copy: no shelf p", x.copy(8, 3, 0, 0, 1), -1);
        DUE.is("copy: no shelf q", x.copy(3, -1, 0, 0, 1), -1);
        DUE.is("copy: p a maker, q nothing", x.copy(3, 4, 0, 0, -1), -2);
        DUE.is("copy: p nothing, q a maker", x.copy(4, 3, 0, 0, -1), -2);
        DUE.is("copy: two sorts", x.copy(0, 2, 0, 0, -1), -2);
        DUE.is("copy: p nothing", x.copy(4, 0, 0, 0, -1), -3);
        DUE.is("copy: q nothing", x.copy(2, 4, 9, 0, 1), -3);
        DUE.is("copy: n below 0", x.copy(0, 1, 9, 0, -1), -4);
        DUE.is("copy: i below 0", x.copy(0, 1, -1, 0, 0), -5);
        DUE.is("copy: j below 0", x.copy(0, 1, 0, -1, 0), -5);
        DUE.is("copy: end of p", x.copy(0, 1, 4, 0, 2), -5);
        DUE.is("copy: end of q", x.copy(0, 1, 0, 2, 2), -5);
        DUE.is("copy: i behind the end", x.copy(0, 1, 6, 0, 0), -5);
        DUE.is("copy: far behind", x.copy(0, 1, Integer.MAX_VALUE, 0, Integer.MAX_VALUE), -5);
        DUE.is("copy: far behind", x.copy(0, 1, 1, 1, Integer.MAX_VALUE), -5);
        DUE.is("status(12)", x.status(12), 3);
        DUE.is("status(13)", x.status(13), 2);
        DUE.is("status(14)", x.status(14), 1);
        DUE.is("status(15)", x.status(15), 7);
    }

    private static void element() {
        NoneMayLeave x = new NoneMayLeave();
        x.maker(0, 0, 7);
        x.show(1, 0);
        Texts.numbers(x, 0, 0, 3, 4);
        DUE.is("element", x.element(0, 1), 4);
        DUE.is("element: none such", x.element(0, 2), 0);
        DUE.is("element: below 0", x.element(0, -1), 0);
        DUE.is("element: a maker", x.element(1, 0), 0);
        DUE.is("element: nothing", x.element(2, 0), 0);
        DUE.is("element: no shelf", x.element(8, 0), 0);
        DUE.is("element: no shelf", x.element(-1, 0), 0);
        x.row(0, 0, 1);
        DUE.is("element: of the row before", x.element(0, 1), 0);
        Texts.numbers(x, 0, 0, 3, 4);
        x.show(0, 0);
        DUE.is("element: of the row ahead of a maker", x.element(0, 0), 0);
        Texts.numbers(x, 0, 0, 3, 4);
        x.show(0, -1);
        DUE.is("element: of the row ahead of nothing", x.element(0, 0), 0);
        DUE.is("element: of the row ahead of nothing", x.element(0, 1), 0);
        for (int what = 11; what <= 17; what++) {
            DUE.is("nothing is refused: status(" + what + ")", x.status(what), 0);
        }
    }

    private static void showAndHolds() {
        NoneMayLeave x = new NoneMayLeave();
        x.maker(3, 1, 2);
        x.maker(4, 1, 2);
        DUE.is("show(0, 1)", x.show(0, 1), 1);
        DUE.is("holds(0)", x.holds(0), 1);
        DUE.is("show(0, 2): no maker", x.show(0, 2), -1);
        DUE.is("show(0, -2): no maker", x.show(0, -2), -1);
        DUE.is("show(8, -1): no shelf", x.show(8, -1), -1);
        DUE.is("show(-1, 0): no shelf", x.show(-1, 0), -1);
        DUE.is("holds(0): as it was", x.holds(0), 1);
        DUE.is("show(0, NONE)", x.show(0, -1), 0);
        DUE.is("holds(0)", x.holds(0), -1);
        x.row(0, 1, 4);
        DUE.is("holds(0): shorts", x.holds(0), 101);
        DUE.is("show over a row", x.show(0, 0), 1);
        DUE.is("holds(0)", x.holds(0), 0);
        x.row(0, 2, 4);
        DUE.is("holds(0): ints", x.holds(0), 102);
        DUE.is("show NONE over a row", x.show(0, -1), 0);
        DUE.is("holds(0)", x.holds(0), -1);
        DUE.is("holds(8)", x.holds(8), -1);
        DUE.is("holds(-1)", x.holds(-1), -1);
        DUE.is("status(11)", x.status(11), 4);
    }

    private static void says() {
        NoneMayLeave x = new NoneMayLeave();
        for (int kind = 0; kind < 7; kind++) {
            x.maker(kind, 3, 10 + kind);
            x.show(kind, kind);
        }
        x.ask(0, 7);
        x.kin(1, 0, true);
        x.kin(1, 2, true);
        x.kin(3, 1, true);
        x.bid(2, 13);
        x.bid(5, 3);
        DUE.is("a maker says", x.says(0, 0), 10);
        DUE.is("a husband says: of three kin two are home", x.says(1, 1), 2);
        DUE.is("a husband as a maker", x.says(1, 0), 11);
        DUE.is("a father says", x.says(3, 3), 1);
        DUE.is("a father as a husband", x.says(3, 1), 1);
        DUE.is("a father as a maker", x.says(3, 0), 13);
        DUE.is("a double says", x.says(2, 2), 1);
        DUE.is("a spy as a double", x.says(5, 2), 1);
        DUE.is("a spy says", x.says(5, 5), 1);
        DUE.is("a spy as a maker", x.says(5, 0), 15);
        DUE.is("a foundling says", x.says(4, 4), 14 - 3 + 7);
        DUE.is("a boy says", x.says(6, 6), 16 - 3 + 3);
        DUE.is("a boy as a foundling", x.says(6, 4), 16 - 3 + 3);
        DUE.is("a boy as a maker", x.says(6, 0), 16);
        x.month();
        DUE.is("a double at home says", x.says(2, 2), 0);
        DUE.is("a spy at home says", x.says(5, 5), 0);
        x.row(7, 0, 1);
        DUE.is("says: a maker is no husband", x.says(0, 1), -2);
        DUE.is("says: a husband is no father", x.says(1, 3), -2);
        DUE.is("says: a double is no spy", x.says(2, 5), -2);
        DUE.is("says: a foundling is no boy", x.says(4, 6), -2);
        DUE.is("says: a boy is no husband", x.says(6, 1), -2);
        DUE.is("says: a row", x.says(7, 0), -2);
        x.show(7, -1);
        DUE.is("says: nothing", x.says(7, 0), -3);
        DUE.is("says: no kind", x.says(7, 7), -1);
        DUE.is("says: no kind", x.says(0, -1), -1);
        DUE.is("says: no shelf", x.says(8, 0), -1);
        DUE.is("says: no shelf", x.says(-1, 0), -1);
        DUE.is("status(11)", x.status(11), 4);
        DUE.is("status(12)", x.status(12), 6);
        DUE.is("status(13)", x.status(13), 1);
    }
}
