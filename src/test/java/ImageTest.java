/** Promises 43 to 45: image, restore, status. */
public final class ImageTest {
    private static final Due DUE = new Due("ImageTest");

    private ImageTest() {
    }

    public static void main(String[] args) {
        restore();
        shelves();
        notImaged();
        status();
        refusals();
        DUE.end();
    }

    private static void restore() {
        NoneMayLeave x = new NoneMayLeave();
        DUE.is("restore: there is none", x.restore(), -6);
        DUE.is("status(16)", x.status(16), 1);
        DUE.is("image: of a new one", x.image(), 0);
        x.maker(0, 0, 0);
        DUE.is("restore: to a new one", x.restore(), 0);
        DUE.is("status(0)", x.status(0), 0);
        Texts.island(x, "parts 6;maker 3 4 5;maker 2 1 6;maker 0 0 0;knows 0 1;kin 0 1;fear 3;purse 77;goes 1;dies 2");
        x.month();
        x.seed(55);
        x.bid(1, 6);
        DUE.is("image", x.image(), 3);
        long[] before = new long[9];
        for (int what = 0; what <= 8; what++) {
            before[what] = x.status(what);
        }
        DUE.is("more", Texts.island(x, "parts 8;maker 0 0 0;knows 0 5;knows 3 0;kin 0 2;fear 9;purse 1;goes 0;dies 0"), 9);
        x.month();
        x.write();
        x.years(3);
        x.kin(0, 1, false);
        for (int again = 0; again < 2; again++) {
            DUE.is("restore", x.restore(), 3);
            for (int what = 0; what <= 8; what++) {
                DUE.is("restored: status(" + what + ")", x.status(what), before[what]);
            }
            long[] due = {3, 4, 5, 2, 2, 0, 5 + 2 + 12};
            for (int what = 0; what <= 6; what++) {
                DUE.is("restored: makerOf(0, " + what + ")", x.makerOf(0, what), due[what]);
            }
            DUE.is("restored: makerOf(2, 5)", x.makerOf(2, 5), 3);
            DUE.is("restored: makerOf(3, 0)", x.makerOf(3, 0), -5);
            DUE.is("a maker anew", x.maker(6, 1, 1), 3);
            DUE.is("he knows nothing", x.makerOf(3, 3), 0);
            DUE.is("he has no kin", x.makerOf(3, 4), 0);
            DUE.is("he is at home", x.makerOf(3, 5), 0);
        }
    }

    private static void shelves() {
        NoneMayLeave x = new NoneMayLeave();
        x.maker(0, 0, 11);
        x.image();
        x.maker(0, 0, 22);
        x.show(0, 0);
        x.show(1, 1);
        Texts.numbers(x, 2, 1, 5, 6);
        x.restore();
        DUE.is("holds(0)", x.holds(0), 0);
        DUE.is("says(0, 0)", x.says(0, 0), 11);
        DUE.is("holds(1): nothing", x.holds(1), -1);
        DUE.is("holds(2): a row", x.holds(2), 101);
        DUE.is("element(2, 1)", x.element(2, 1), 6);
        x.maker(0, 0, 33);
        DUE.is("holds(1): nothing still", x.holds(1), -1);
        DUE.is("says(1, 0): nothing", x.says(1, 0), -3);
        for (int s = 0; s < 8; s++) {
            x.show(s, 1);
        }
        x.restore();
        for (int s = 0; s < 8; s++) {
            DUE.is("every shelf: holds(" + s + ")", x.holds(s), -1);
        }
    }

    private static void notImaged() {
        NoneMayLeave x = new NoneMayLeave();
        x.maker(4, 2, 3);
        x.image();
        x.act(0, 2, 9);
        Texts.fault(x, "fear 1!");
        x.maker(9, 0, 0);
        x.restore();
        DUE.is("the fault stays", x.fault(), 6);
        DUE.is("the trace stays", x.trace(0), 50);
        DUE.is("status(9) stays", x.status(9), 7);
        DUE.is("refusals stay", x.status(11), 1);
        DUE.is("refusals stay", x.status(16), 1);
    }

    private static void status() {
        NoneMayLeave x = new NoneMayLeave();
        Texts.island(x, "parts 7;maker 0 0 1;maker 0 0 1;maker 0 0 1;maker 0 0 1;maker 0 0 1;maker 0 0 1;goes 0;goes 1;dies 2");
        x.deed(3, 0);
        x.month();
        x.act(0, 1, 1);
        long[] due = {6, 7, 2, 2, 1, 4, 100, 1, 1, 2};
        for (int what = 0; what <= 9; what++) {
            DUE.is("status(" + what + ")", x.status(what), due[what]);
        }
        x.deed(0, 1);
        DUE.is("status(4)", x.status(4), 2);
        DUE.is("status(3)", x.status(3), 1);
        int[] none = {-1, 10, 18, 100, Integer.MIN_VALUE, Integer.MAX_VALUE};
        for (int what : none) {
            DUE.is("status(" + what + ")", x.status(what), -1);
        }
    }

    private static void refusals() {
        NoneMayLeave x = new NoneMayLeave();
        x.maker(0, 0, 0);
        x.show(1, 0);
        for (int times = 1; times <= 3; times++) {
            x.row(9, 0, 0);
            x.island(1);
            x.island(0);
            x.row(0, 0, -1);
            x.abroad(5);
            x.ask(9, 9);
            x.row(0, 0, 161);
            for (int what = 11; what <= 17; what++) {
                DUE.is("status(" + what + ")", x.status(what), times);
            }
        }
        x.judge(9, 0);
        x.judge(1, 0);
        x.judge(0, 0);
        x.row(0, 0, 41);
        x.judge(0, -1);
        x.judge(0, 42);
        x.judge(0, 41);
        for (int what = 11; what <= 16; what++) {
            DUE.is("as one less by ten: status(" + what + ")", x.status(what), 4);
        }
        DUE.is("status(17)", x.status(17), 3);
        DUE.is("row: a good one", x.row(0, 0, 5), 1);
        DUE.is("status(14)", x.status(14), 4);
    }
}
