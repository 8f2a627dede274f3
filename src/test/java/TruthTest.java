/** Promises 35 to 40: bid, deed, write, month, years, seed. */
public final class TruthTest {
    private static final Due DUE = new Due("TruthTest");

    private TruthTest() {
    }

    public static void main(String[] args) {
        bid();
        deed();
        fearIsBounded();
        write();
        writeDraws();
        month();
        years();
        yearsByHand();
        seed();
        DUE.end();
    }

    private static void bid() {
        NoneMayLeave x = new NoneMayLeave();
        x.maker(0, 0, 30);
        x.maker(0, 0, 60);
        DUE.is("bid: no maker", x.bid(2, -1), -1);
        DUE.is("bid: no maker", x.bid(-1, 1), -1);
        DUE.is("bid: below 0", x.bid(0, -1), -6);
        DUE.is("bid: above the purse", x.bid(0, 101), -6);
        DUE.is("bid: below the price", x.bid(0, 29), 0);
        DUE.is("status(6): he stays", x.status(6), 100);
        DUE.is("status(3): he stays", x.status(3), 0);
        DUE.is("bid: more than the price", x.bid(0, 40), 1);
        DUE.is("status(6)", x.status(6), 60);
        DUE.is("status(3)", x.status(3), 1);
        DUE.is("bid: he is abroad", x.bid(0, 40), -6);
        DUE.is("bid: all of the purse", x.bid(1, 60), 1);
        DUE.is("status(6)", x.status(6), 0);
        x.deed(0, 1);
        DUE.is("bid: he is dead", x.bid(0, 0), -6);
        x.maker(5, 0, 99);
        DUE.is("bid: a spy goes for nothing", x.bid(2, 0), 1);
        x.maker(0, 0, 0);
        x.deed(3, 0);
        DUE.is("bid: he is shut up", x.bid(3, 0), -6);
        DUE.is("status(11)", x.status(11), 2);
        DUE.is("status(16)", x.status(16), 5);
    }

    private static void deed() {
        NoneMayLeave x = new NoneMayLeave();
        x.maker(0, 0, 1);
        x.maker(0, 0, 1);
        DUE.is("deed: no maker ahead of what", x.deed(2, 3), -1);
        DUE.is("deed: no maker", x.deed(-1, 0), -1);
        DUE.is("deed: another what", x.deed(0, 3), -5);
        DUE.is("deed: another what", x.deed(0, -1), -5);
        DUE.is("kill one at home", x.deed(0, 1), -6);
        DUE.is("free one at home", x.deed(0, 2), -6);
        DUE.is("shut", x.deed(0, 0), 5);
        DUE.is("shut one shut up", x.deed(0, 0), -6);
        DUE.is("kill one shut up", x.deed(0, 1), -6);
        DUE.is("free", x.deed(0, 2), 0);
        DUE.is("makerOf(0, 5)", x.makerOf(0, 5), 0);
        x.bid(0, 1);
        DUE.is("shut one abroad", x.deed(0, 0), -6);
        DUE.is("free one abroad", x.deed(0, 2), -6);
        DUE.is("kill", x.deed(0, 1), 10);
        DUE.is("makerOf(0, 5)", x.makerOf(0, 5), 3);
        for (int what = 0; what < 3; what++) {
            DUE.is("deed on the dead", x.deed(0, what), -6);
        }
        DUE.is("status(4)", x.status(4), 1);
        DUE.is("status(11)", x.status(11), 2);
        DUE.is("status(15)", x.status(15), 2);
        DUE.is("status(16)", x.status(16), 9);
    }

    private static void fearIsBounded() {
        NoneMayLeave x = new NoneMayLeave();
        for (int m = 0; m < 4; m++) {
            x.maker(5, 0, 0);
        }
        x.bid(0, 0);
        x.bid(1, 0);
        x.ask(0, 88);
        DUE.is("kill: 98", x.deed(0, 1), 98);
        DUE.is("kill: 99 at most", x.deed(1, 1), 99);
        x.ask(0, 96);
        DUE.is("shut: 99 at most", x.deed(2, 0), 99);
        x.ask(0, 3);
        DUE.is("free: 0 at least", x.deed(2, 2), 0);
        x.month();
        DUE.is("month: 0 at least", x.status(5), 0);
        x.ask(0, 2);
        x.month();
        DUE.is("month: 1 less", x.status(5), 1);
    }

    /** A draw below n by a seed, and the next seed, in the document's words. */
    private static int drawn(int seed, int n) {
        return (int) ((next(seed) & 0xFFFFFFFFL) / 65536 % n);
    }

    private static int next(int seed) {
        return (int) (seed * 1103515245L + 12345L);
    }

    /** 0 with kin 1 at home, 1 at home, 2 abroad without kin, a double 3, a spy 4, 5 with kin 2. */
    private static NoneMayLeave six(int fear) {
        NoneMayLeave x = new NoneMayLeave();
        DUE.is("the island of six", Texts.island(x, "maker 0 0 0;maker 0 0 0;maker 0 0 0;maker 2 0 0;maker 5 0 0;"
            + "maker 1 0 0;kin 0 1;kin 2 5"), 8);
        DUE.is("fear and who goes", Texts.island(x, "goes 0;goes 2;goes 3;goes 4;goes 5"), 5);
        x.ask(0, fear);
        return x;
    }

    private static void write() {
        NoneMayLeave x = six(0);
        DUE.is("write: no fear", x.write(), 0);
        int seed = 1;
        for (int i = 0; i < 3; i++) {
            seed = next(seed);
        }
        DUE.is("status(8): three may come", x.status(8), seed);
        DUE.is("status(3)", x.status(3), 5);
        int came = 0;
        boolean[] home = new boolean[6];
        x.ask(0, 60);
        int[] may = {0, 3, 4};
        for (int m : may) {
            home[m] = drawn(seed, 100) < 60;
            came += home[m] ? 1 : 0;
            seed = next(seed);
        }
        DUE.is("write: by draws", x.write(), came);
        for (int m : may) {
            DUE.is("makerOf(" + m + ", 5)", x.makerOf(m, 5), home[m] ? 0 : 1);
        }
        DUE.is("status(8)", x.status(8), seed);
        DUE.is("makerOf(2, 5): no kin at home", x.makerOf(2, 5), 1);
        DUE.is("status(5): as it was", x.status(5), 60);
        DUE.is("write: nobody on a new island", new NoneMayLeave().write(), 0);
        kinBehind();
    }

    /** Who comes home is at home for those behind, not for those ahead. */
    private static void kinBehind() {
        NoneMayLeave x = new NoneMayLeave();
        Texts.island(x, "maker 0 0 0;maker 2 0 0;maker 0 0 0;kin 0 1;kin 1 2;goes 0;goes 1;goes 2;fear 99");
        int seed = 1;
        boolean first = drawn(seed, 100) < 99;
        seed = next(seed);
        boolean second = first && drawn(seed, 100) < 99;
        seed = first ? next(seed) : seed;
        DUE.holds("the draws of seed 1 let both come", first && second);
        DUE.is("write: the double, then his kin behind", x.write(), 2);
        DUE.is("makerOf(0, 5): he was ahead", x.makerOf(0, 5), 1);
        DUE.is("makerOf(2, 5)", x.makerOf(2, 5), 0);
        DUE.is("status(8)", x.status(8), seed);
        DUE.is("makerOf(1, 3): by letters he knows no more", x.makerOf(1, 3), 0);
    }

    private static void writeDraws() {
        for (int fear = 1; fear <= 99; fear += 14) {
            for (int seed = 5; seed < 40; seed++) {
                NoneMayLeave x = new NoneMayLeave();
                x.maker(2, 0, 0);
                x.bid(0, 0);
                x.ask(0, fear);
                x.seed(seed * 7919);
                DUE.is("write by seed " + seed * 7919, x.write(), drawn(seed * 7919, 100) < fear ? 1 : 0);
                int draw = drawn(seed * 7919, 100);
                x.seed(seed * 7919);
                x.bid(0, 99);
                x.ask(0, draw);
                DUE.is("write: the draw is not below fear " + draw, x.status(3) == 1 ? x.write() : 0, 0);
            }
        }
    }

    private static void month() {
        NoneMayLeave x = new NoneMayLeave();
        Texts.island(x, "maker 0 0 0;maker 2 0 0;maker 5 0 0;maker 2 0 0;knows 0 0;knows 1 1;knows 2 2;knows 3 3;fear 9");
        Texts.island(x, "goes 0;goes 1;goes 2");
        DUE.is("month: the doubles come", x.month(), 2);
        DUE.is("makerOf(1, 3): he heard all", x.makerOf(1, 3), 7);
        DUE.is("makerOf(2, 3): he heard all", x.makerOf(2, 3), 7);
        DUE.is("makerOf(3, 3): he was at home", x.makerOf(3, 3), 8);
        DUE.is("makerOf(0, 3): he heard nothing", x.makerOf(0, 3), 1);
        DUE.is("makerOf(0, 5): he stays", x.makerOf(0, 5), 1);
        DUE.is("makerOf(1, 5)", x.makerOf(1, 5), 0);
        DUE.is("makerOf(2, 5)", x.makerOf(2, 5), 0);
        DUE.is("status(5)", x.status(5), 8);
        DUE.is("status(7)", x.status(7), 1);
        DUE.is("status(8): no draw", x.status(8), 1);
        DUE.is("month: nobody", x.month(), 0);
        DUE.is("status(7)", x.status(7), 2);
        DUE.is("month on a new island", new NoneMayLeave().month(), 0);
        NoneMayLeave y = new NoneMayLeave();
        for (int m = 0; m < 8; m++) {
            y.maker(m < 4 ? 2 : 5, 0, 0);
            y.knows(m, m % 4, true);
            y.bid(m, 0);
        }
        DUE.is("month: all eight come", y.month(), 8);
        for (int m = 0; m < 8; m++) {
            DUE.is("makerOf(" + m + ", 3)", y.makerOf(m, 3), 15);
        }
    }

    private static void years() {
        NoneMayLeave x = new NoneMayLeave();
        DUE.is("years: no makers ahead of n", x.years(0), -5);
        DUE.is("years: no makers", x.years(1), -5);
        x.maker(0, 0, 0);
        DUE.is("years(0)", x.years(0), -6);
        DUE.is("years(241)", x.years(241), -6);
        DUE.is("years(-1)", x.years(-1), -6);
        DUE.is("status(7)", x.status(7), 0);
        for (int p = 0; p < 4; p++) {
            x.knows(0, p, true);
        }
        x.seed(0);
        x.years(240);
        DUE.is("status(7)", x.status(7), 240);
        DUE.is("status(15)", x.status(15), 2);
        DUE.is("status(16)", x.status(16), 3);
        NoneMayLeave y = new NoneMayLeave();
        y.parts(8);
        y.maker(3, 9, 99);
        y.ask(1, 0);
        DUE.is("years: nobody can be paid", y.years(100), 0);
        DUE.is("status(2)", y.status(2), 1);
        DUE.is("years(1)", y.years(1), 0);
        DUE.is("status(7)", y.status(7), 101);
    }

    /** Ten months each by draws that are told one by one, month after month, against the calls in truth. */
    private static void yearsByHand() {
        for (int start = 1; start < 60; start++) {
            NoneMayLeave x = new NoneMayLeave();
            String text = "maker 0 0 5;maker 2 0 8;maker 1 0 9;kin 0 2;knows 0 0;knows 2 1;knows 0 2;knows 2 3;fear 50;purse 200";
            Texts.island(x, text);
            x.seed(start * 1237);
            NoneMayLeave y = new NoneMayLeave();
            Texts.island(y, text);
            y.seed(start * 1237);
            int made = 0;
            for (int i = 0; i < 10; i++) {
                monthByHand(y);
                made += y.abroad(0);
            }
            DUE.is("years by seed " + start * 1237, x.years(10), made);
            for (int what = 0; what <= 8; what++) {
                DUE.is("status(" + what + ")", x.status(what), y.status(what));
            }
            for (int m = 0; m < 3; m++) {
                DUE.is("makerOf(" + m + ", 5)", x.makerOf(m, 5), y.makerOf(m, 5));
                DUE.is("makerOf(" + m + ", 3)", x.makerOf(m, 3), y.makerOf(m, 3));
            }
        }
    }

    private static void monthByHand(NoneMayLeave y) {
        int seed = y.status(8);
        int what = drawn(seed, 4);
        seed = next(seed);
        y.seed(seed);
        if (what == 0 || what == 2) {
            int m = drawn(seed, 3);
            y.seed(next(seed));
            if (what == 0) {
                y.bid(m, y.makerOf(m, 6));
            } else {
                y.deed(m, 1);
            }
        } else if (what == 1) {
            y.write();
        }
        y.month();
    }

    private static void seed() {
        NoneMayLeave x = new NoneMayLeave();
        DUE.is("seed(7)", x.seed(7), 1);
        DUE.is("seed(MIN)", x.seed(Integer.MIN_VALUE), 7);
        DUE.is("seed(-1)", x.seed(-1), Integer.MIN_VALUE);
        DUE.is("status(8)", x.status(8), -1);
        for (int what = 11; what <= 17; what++) {
            DUE.is("nothing is refused", x.status(what), 0);
        }
    }
}
