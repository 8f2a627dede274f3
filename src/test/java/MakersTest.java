/** Promises 9 to 14: maker, parts, knows, kin, ask, makerOf. */
public final class MakersTest {
    private static final Due DUE = new Due("MakersTest");

    private MakersTest() {
    }

    public static void main(String[] args) {
        maker();
        parts();
        knows();
        kin();
        ask();
        makerOf();
        prices();
        DUE.end();
    }

    private static void maker() {
        NoneMayLeave x = new NoneMayLeave();
        DUE.is("maker: kind -1 ahead of a", x.maker(-1, 10, 0), -1);
        DUE.is("maker: kind 7", x.maker(7, 0, 0), -1);
        DUE.is("maker: a 10", x.maker(0, 10, 0), -6);
        DUE.is("maker: a -1", x.maker(0, -1, 0), -6);
        DUE.is("maker: want 100", x.maker(0, 0, 100), -6);
        DUE.is("maker: want -1", x.maker(0, 0, -1), -6);
        DUE.is("status(0): none yet", x.status(0), 0);
        for (int m = 0; m < 8; m++) {
            DUE.is("maker " + m, x.maker(m % 7, 9, 99), m);
        }
        DUE.is("maker: a ninth", x.maker(0, 0, 0), -7);
        DUE.is("maker: a ninth, a wrong", x.maker(0, 10, 0), -6);
        DUE.is("status(0)", x.status(0), 8);
        DUE.is("status(2)", x.status(2), 8);
        DUE.is("status(11)", x.status(11), 2);
        DUE.is("status(16)", x.status(16), 5);
        DUE.is("status(17)", x.status(17), 1);
    }

    private static void parts() {
        NoneMayLeave x = new NoneMayLeave();
        DUE.is("parts(3): fewer", x.parts(3), -6);
        DUE.is("parts(0)", x.parts(0), -6);
        DUE.is("parts(-1)", x.parts(-1), -6);
        DUE.is("parts(4): as many", x.parts(4), 4);
        DUE.is("parts(8)", x.parts(8), 4);
        DUE.is("parts(9)", x.parts(9), -6);
        DUE.is("parts(7): fewer", x.parts(7), -6);
        DUE.is("parts(8): as many", x.parts(8), 8);
        DUE.is("status(1)", x.status(1), 8);
        DUE.is("status(16)", x.status(16), 5);
    }

    private static void knows() {
        NoneMayLeave x = new NoneMayLeave();
        x.maker(0, 0, 0);
        DUE.is("knows: no maker ahead of the part", x.knows(1, 9, true), -1);
        DUE.is("knows: no maker", x.knows(-1, 0, true), -1);
        DUE.is("knows: no part", x.knows(0, 4, true), -6);
        DUE.is("knows: no part", x.knows(0, -1, true), -6);
        DUE.is("knows: he didn't", x.knows(0, 3, true), 0);
        DUE.is("knows: he did", x.knows(0, 3, true), 1);
        DUE.is("knows: he did, still", x.knows(0, 3, false), 1);
        DUE.is("knows: he doesn't", x.knows(0, 3, false), 0);
        DUE.is("knows: nor now", x.knows(0, 3, true), 0);
        x.knows(0, 0, true);
        DUE.is("makerOf: knows", x.makerOf(0, 3), 9);
        x.parts(8);
        DUE.is("knows: part 7", x.knows(0, 7, true), 0);
        DUE.is("makerOf: knows", x.makerOf(0, 3), 137);
    }

    private static void kin() {
        NoneMayLeave x = new NoneMayLeave();
        for (int i = 0; i < 8; i++) {
            x.maker(0, 0, 0);
        }
        DUE.is("kin: weren't", x.kin(2, 7, true), 0);
        DUE.is("kin: were, the other way too", x.kin(7, 2, true), 1);
        DUE.is("makerOf(2, 4)", x.makerOf(2, 4), 128);
        DUE.is("makerOf(7, 4)", x.makerOf(7, 4), 4);
        x.kin(7, 0, true);
        DUE.is("makerOf(7, 4)", x.makerOf(7, 4), 5);
        DUE.is("kin: aren't", x.kin(7, 2, false), 1);
        DUE.is("makerOf(2, 4)", x.makerOf(2, 4), 0);
        DUE.is("makerOf(7, 4)", x.makerOf(7, 4), 1);
        DUE.is("kin: nor are", x.kin(2, 7, false), 0);
        DUE.is("kin: the same", x.kin(3, 3, true), -6);
        DUE.is("kin: no maker", x.kin(8, 8, true), -1);
        DUE.is("kin: no other", x.kin(0, -1, true), -1);
        DUE.is("kin: no maker", x.kin(-1, 0, true), -1);
        DUE.is("makerOf(3, 4): not his own kin", x.makerOf(3, 4), 0);
    }

    private static void ask() {
        NoneMayLeave x = new NoneMayLeave();
        DUE.is("ask fear", x.ask(0, 99), 0);
        DUE.is("ask fear", x.ask(0, 0), 99);
        DUE.is("ask purse", x.ask(1, 9999), 100);
        DUE.is("ask purse", x.ask(1, 0), 9999);
        DUE.is("ask fear 100", x.ask(0, 100), -6);
        DUE.is("ask fear -1", x.ask(0, -1), -6);
        DUE.is("ask purse 10000", x.ask(1, 10000), -6);
        DUE.is("ask purse -1", x.ask(1, -1), -6);
        DUE.is("ask 2", x.ask(2, 0), -6);
        DUE.is("ask -1", x.ask(-1, 0), -6);
        DUE.is("status(5)", x.status(5), 0);
        DUE.is("status(6)", x.status(6), 0);
        DUE.is("status(16)", x.status(16), 6);
    }

    private static void makerOf() {
        NoneMayLeave x = new NoneMayLeave();
        x.maker(3, 7, 61);
        x.maker(0, 0, 1);
        x.kin(0, 1, true);
        x.knows(0, 2, true);
        x.ask(0, 4);
        long[] due = {3, 7, 61, 4, 2, 0, 61 + 4 + 5 + 21};
        for (int what = 0; what <= 6; what++) {
            DUE.is("makerOf(0, " + what + ")", x.makerOf(0, what), due[what]);
        }
        x.deed(1, 0);
        DUE.is("shut", x.makerOf(1, 5), 2);
        x.deed(1, 2);
        x.bid(1, 99);
        DUE.is("abroad", x.makerOf(1, 5), 1);
        x.deed(1, 1);
        DUE.is("dead", x.makerOf(1, 5), 3);
        DUE.is("makerOf(0, 7)", x.makerOf(0, 7), -5);
        DUE.is("makerOf(0, -1)", x.makerOf(0, -1), -5);
        DUE.is("makerOf(2, 0)", x.makerOf(2, 0), -5);
        DUE.is("makerOf(-1, 0)", x.makerOf(-1, 0), -5);
        DUE.is("status(15)", x.status(15), 4);
    }

    private static void prices() {
        NoneMayLeave x = new NoneMayLeave();
        int[] due = {50 + 9, 50 + 9 + 10, 25 + 9, 50 + 9 + 5 + 12, 46 + 9, 4, 46 + 4};
        for (int kind = 0; kind < 7; kind++) {
            x.maker(kind, 4, kind == 2 ? 51 : 50);
        }
        x.ask(0, 9);
        x.kin(1, 3, true);
        x.kin(1, 0, true);
        for (int m = 0; m < 7; m++) {
            DUE.is("price of " + m, x.makerOf(m, 6), due[m]);
        }
        x.bid(0, 59);
        DUE.is("a husband whose kin is gone", x.makerOf(1, 6), 50 + 9 + 5);
        NoneMayLeave y = new NoneMayLeave();
        y.maker(4, 9, 3);
        y.maker(6, 9, 3);
        y.ask(0, 5);
        DUE.is("a foundling wants less than his a", y.makerOf(0, 6), 5);
        DUE.is("a boy wants less than his a", y.makerOf(1, 6), 2);
    }
}
