import java.util.Arrays;
import java.util.function.ToLongFunction;

/** Promises 35 to 45, and for how many calls an object is used, sentence by sentence. */
public final class PromisesTruthTest {
    private static final Said SAID = new Said("PromisesTruthTest");

    private PromisesTruthTest() {
    }

    public static void main(String[] args) {
        calls();
        bid();
        deed();
        write();
        month();
        years();
        seed();
        act();
        trace();
        image();
        restore();
        restoredShelves();
        status();
        statusRefusals();
        SAID.end();
    }

    private static void no(String call, ToLongFunction<NoneMayLeave> asks, int no) {
        SAID.refused(Made::rich, call, asks, no);
    }

    private static void calls() {
        SAID.between("islands read from texts, months in truth, years by draws.", "## The public face");
        SAID.says("An object is used for at most 512 calls after it has been made; what later calls answer is free.");
        NoneMayLeave x = new NoneMayLeave();
        for (int call = 1; call < 512; call++) {
            x.month();
        }
        SAID.is("month(), the 511th; status(7), the 512th", x.status(7), 511);
        NoneMayLeave y = new NoneMayLeave();
        for (int call = 1; call <= 510; call++) {
            y.row(9, 0, 0);
        }
        SAID.is("the 511th call is refused too", y.row(9, 0, 0), -1);
        SAID.is("status(11), the 512th", y.status(11), 511);
    }

    private static void bid() {
        SAID.promise(35);
        SAID.says("A BID in truth: 1 he goes, 0.");
        NoneMayLeave x = Made.rich();
        SAID.is("bid(0, 24)", x.bid(0, 24), 0);
        SAID.is("bid(0, 0)", x.bid(0, 0), 0);
        SAID.is("makerOf(0, 5)", x.makerOf(0, 5), 0);
        SAID.is("status(6)", x.status(6), 431);
        SAID.is("bid(0, 25)", x.bid(0, 25), 1);
        SAID.is("makerOf(0, 5)", x.makerOf(0, 5), 1);
        SAID.is("status(6)", x.status(6), 406);
        SAID.is("bid(2, 100): more than the price", x.bid(2, 100), 1);
        SAID.is("status(6)", x.status(6), 306);
        SAID.is("status(5): it frightens nobody", x.status(5), 15);
        SAID.quiet(Made::rich, "bid(0, 24): it isn't refused", y -> y.bid(0, 24), 0);
        SAID.says("-1");
        no("bid(7, -1)", y -> y.bid(7, -1), -1);
        no("bid(-1, 0)", y -> y.bid(-1, 0), -1);
        SAID.refused(NoneMayLeave::new, "bid(0, 0) of a new object", y -> y.bid(0, 0), -1);
        SAID.says("-6 b below 0");
        no("bid(0, -1)", y -> y.bid(0, -1), -6);
        no("bid(0, MIN)", y -> y.bid(0, Integer.MIN_VALUE), -6);
        SAID.says("above PURSE");
        no("bid(0, 432)", y -> y.bid(0, 432), -6);
        no("bid(0, MAX)", y -> y.bid(0, Integer.MAX_VALUE), -6);
        SAID.is("bid(0, 431)", Made.rich().bid(0, 431), 1);
        NoneMayLeave poor = Made.rich();
        poor.ask(1, 0);
        SAID.is("bid(0, 1) of an empty PURSE", poor.bid(0, 1), -6);
        SAID.is("bid(0, 0) of an empty PURSE", poor.bid(0, 0), 0);
        SAID.says("he isn't HOME.");
        no("bid(4, 100): he is shut up", y -> y.bid(4, 100), -6);
        no("bid(5, 6): he is abroad", y -> y.bid(5, 6), -6);
        no("bid(6, 100): he is dead", y -> y.bid(6, 100), -6);
    }

    private static void deed() {
        SAID.promise(36);
        SAID.says("SHUT (what 0), KILL (1), FREE (2) in truth: FEAR.");
        NoneMayLeave x = Made.rich();
        SAID.is("deed(0, 0)", x.deed(0, 0), 20);
        SAID.is("makerOf(0, 5)", x.makerOf(0, 5), 2);
        SAID.is("deed(5, 1)", x.deed(5, 1), 30);
        SAID.is("makerOf(5, 5)", x.makerOf(5, 5), 3);
        SAID.is("deed(4, 2)", x.deed(4, 2), 25);
        SAID.is("makerOf(4, 5)", x.makerOf(4, 5), 0);
        SAID.is("status(5)", x.status(5), 25);
        SAID.is("status(6): nobody is paid", x.status(6), 431);
        SAID.says("-1");
        no("deed(7, 3)", y -> y.deed(7, 3), -1);
        no("deed(-1, -1)", y -> y.deed(-1, -1), -1);
        SAID.says("-5 another what");
        for (int what : new int[] {3, -1, Integer.MIN_VALUE, Integer.MAX_VALUE}) {
            no("deed(0, " + what + ")", y -> y.deed(0, what), -5);
            no("deed(6, " + what + ")", y -> y.deed(6, what), -5);
        }
        SAID.says("-6 it can't be.");
        int[][] cant = {{4, 0}, {5, 0}, {6, 0}, {0, 1}, {4, 1}, {6, 1}, {0, 2}, {5, 2}, {6, 2}};
        for (int[] mw : cant) {
            no("deed(" + mw[0] + ", " + mw[1] + ")", y -> y.deed(mw[0], mw[1]), -6);
        }
    }

    private static void write() {
        SAID.promise(37);
        SAID.says("WRITE in truth: how many came HOME.");
        NoneMayLeave x = Made.by("maker 2 0 0;maker 5 0 0;maker 0 0 0;maker 0 0 0;goes 0;goes 1;goes 2;fear 50");
        x.seed(Drawn.seedFor(new int[] {100, 100}, new int[] {50, 49}));
        SAID.is("write(): one of two", x.write(), 1);
        SAID.is("makerOf(0, 5)", x.makerOf(0, 5), 1);
        SAID.is("makerOf(1, 5)", x.makerOf(1, 5), 0);
        x.seed(Drawn.seedFor(new int[] {100}, new int[] {99}));
        SAID.is("write(): none of one", x.write(), 0);
        SAID.quiet(NoneMayLeave::new, "write(): nobody there", y -> y.write(), 0);
        NoneMayLeave all = Made.plain(4, new int[0], new int[0]);
        for (int m = 0; m < 8; m++) {
            all.maker(5, 0, 0);
            all.bid(m, 0);
        }
        all.ask(0, 99);
        int came = 0;
        int seed = 4711;
        for (int m = 0; m < 8; m++) {
            came += Drawn.below(Drawn.behind(seed, m), 100) < 99 ? 1 : 0;
        }
        all.seed(seed);
        SAID.is("write(): all eight by their draws", all.write(), came);
        SAID.is("status(2)", all.status(2), came);
    }

    private static void month() {
        SAID.promise(38);
        SAID.says("A MONTH in truth: how many came HOME.");
        NoneMayLeave x = Made.rich();
        SAID.is("month(): the spy", x.month(), 1);
        SAID.is("month(): nobody", x.month(), 0);
        SAID.is("status(7)", x.status(7), 3);
        SAID.is("status(5)", x.status(5), 13);
        SAID.is("status(8): no draw", x.status(8), 77);
        SAID.is("month() of a new object", new NoneMayLeave().month(), 0);
        NoneMayLeave all = new NoneMayLeave();
        for (int m = 0; m < 8; m++) {
            all.maker(m % 2 == 0 ? 2 : 5, 0, 0);
            all.bid(m, 0);
        }
        SAID.is("month(): all eight", all.month(), 8);
    }

    private static void years() {
        SAID.promise(39);
        SAID.says("YEARS of n MONTHS (1 to 240): in how many it was MADE ABROAD.");
        NoneMayLeave x = Made.rich();
        x.years(1);
        SAID.is("status(7): one more", x.status(7), 2);
        x.years(240);
        SAID.is("status(7): 240 more", x.status(7), 242);
        // One who can't be bid, dies never and knows all: he is abroad to the end, if nobody kills him.
        NoneMayLeave made = Made.by("maker 0 0 0;knows 0 0;knows 0 1;knows 0 2;knows 0 3;goes 0;purse 0");
        int seed = 99;
        int due = 0;
        boolean lives = true;
        made.seed(seed);
        for (int i = 0; i < 240; i++) {
            int what = Drawn.below(seed, 4);
            seed = Drawn.behind(seed, what == 0 || what == 2 ? 2 : 1);
            lives &= what != 2;
            due += lives ? 1 : 0;
        }
        SAID.is("years(240)", made.years(240), due);
        SAID.is("status(8)", made.status(8), seed);
        SAID.says("-5 no MAKERS");
        for (int n : new int[] {0, 1, 240, 241, -1}) {
            SAID.refused(NoneMayLeave::new, "years(" + n + ") of a new object", y -> y.years(n), -5);
        }
        SAID.says("-6.");
        for (int n : new int[] {0, 241, -1, Integer.MIN_VALUE, Integer.MAX_VALUE}) {
            no("years(" + n + ")", y -> y.years(n), -6);
        }
    }

    private static void seed() {
        SAID.promise(40);
        SAID.says("SEED becomes v: what it was");
        NoneMayLeave x = new NoneMayLeave();
        int was = 1;
        for (int v : new int[] {5, 0, -1, Integer.MIN_VALUE, Integer.MAX_VALUE, 1}) {
            SAID.is("seed(" + v + ")", x.seed(v), was);
            SAID.is("status(8)", x.status(8), v);
            was = v;
        }
        SAID.says("(nothing is refused).");
        for (int v : new int[] {-1, -7, Integer.MIN_VALUE, Integer.MAX_VALUE, 77}) {
            SAID.quiet(Made::rich, "seed(" + v + ") and back", y -> seedAndBack(y, v), 77);
        }
    }

    private static int seedAndBack(NoneMayLeave x, int v) {
        int was = x.seed(v);
        x.seed(was);
        return was;
    }

    private static void act() {
        SAID.promise(41);
        SAID.says("A MOVE of a MAKER with x.");
        SAID.is("act(0, 0, 10)", Made.rich().act(0, 0, 10), 10);
        SAID.is("act(5, 0, 10) of one abroad", Made.rich().act(5, 0, 10), 15);
        SAID.is("act(6, 0, 10) of one dead", Made.rich().act(6, 0, 10), 20);
        SAID.is("act(6, 1, 10) of one dead", Made.rich().act(6, 1, 10), 12);
        SAID.is("act(6, 2, 10) of one dead", Made.rich().act(6, 2, 10), -(12 ^ 6));
        for (int m = 0; m < 7; m++) {
            NoneMayLeave x = Made.rich();
            long answered = x.act(m, 2, 5);
            NoneMayLeave y = Made.rich();
            y.image();
            y.restore();
            SAID.is("act(" + m + ", 2, 5): the same every time", y.act(m, 2, 5), answered);
            boolean same = Arrays.equals(Made.seen(x), Made.seen(y));
            SAID.holds("act(" + m + ", 2, 5): nothing but the trace", same);
        }
        SAID.says("0, and no TRACE then: no such MAKER, move.");
        int[][] none = {{7, 0}, {-1, 0}, {0, 3}, {0, -1}, {9, 9}, {Integer.MIN_VALUE, 0}, {Integer.MAX_VALUE, 1},
            {0, Integer.MIN_VALUE}, {0, Integer.MAX_VALUE}};
        for (int[] ma : none) {
            NoneMayLeave x = Made.rich();
            String call = "act(" + ma[0] + ", " + ma[1] + ", 9)";
            int[] counts = counts(x);
            SAID.is("trace(0) ahead", x.trace(0), 50);
            SAID.is(call, x.act(ma[0], ma[1], 9), 0);
            for (int i = 0; i < 12; i++) {
                SAID.is(call + ": trace(" + i + ")", x.trace(i), -1);
            }
            SAID.is(call + ": status(9)", x.status(9), 0);
            SAID.holds(call + ": nothing is refused", Arrays.equals(counts, counts(x)));
        }
        SAID.is("act(0, 0, 9) of a new object", new NoneMayLeave().act(0, 0, 9), 0);
    }

    private static int[] counts(NoneMayLeave x) {
        int[] counts = new int[8];
        for (int i = 1; i <= 7; i++) {
            counts[i] = x.status(10 + i);
        }
        return counts;
    }

    private static void trace() {
        SAID.promise(42);
        SAID.says("THE TRACE's i-th body.");
        int[] due = {50, 12, 71, 11, 70, 51, 10, 70, 51, 10};
        for (int i = 0; i < due.length; i++) {
            int at = i;
            SAID.quiet(Made::rich, "trace(" + i + ")", x -> x.trace(at), due[i]);
        }
        SAID.says("NONE: none such.");
        for (int i : new int[] {10, -1, 19, 20, 21, Integer.MIN_VALUE, Integer.MAX_VALUE}) {
            SAID.quiet(Made::rich, "trace(" + i + ")", x -> x.trace(i), -1);
        }
        SAID.quiet(NoneMayLeave::new, "trace(0) of a new object", x -> x.trace(0), -1);
        NoneMayLeave x = Made.rich();
        x.act(0, 0, 1);
        SAID.is("trace(0) of a shorter one", x.trace(0), 10);
        SAID.is("trace(1) of a shorter one", x.trace(1), -1);
    }

    // ---- the image

    private static void image() {
        SAID.promise(43);
        SAID.says("THE IMAGE of all but SHELVES (and THE IMAGE, REFUSALS, the FAULT, THE TRACE) is taken: "
            + "how many MAKERS.");
        SAID.is("image() of a new object", new NoneMayLeave().image(), 0);
        SAID.is("image()", Made.rich().image(), 7);
        NoneMayLeave x = Made.rich();
        x.image();
        x.image();
        long[] before = Made.seen(x);
        change(x);
        x.act(0, 1, 1);
        Texts.fault(x, "fear 1!");
        x.row(9, 0, 0);
        Texts.numbers(x, 0, 2, 9, 8);
        int[] counts = counts(x);
        SAID.is("restore()", x.restore(), 7);
        SAID.is("the FAULT isn't in it", x.fault(), 6);
        SAID.is("THE TRACE isn't in it", x.trace(0), 11);
        SAID.is("status(9) isn't in it", x.status(9), 2);
        SAID.is("SHELVES aren't in it", x.holds(0), 102);
        SAID.is("their elements aren't in it", x.element(0, 1), 8);
        SAID.holds("REFUSALS aren't in it", Arrays.equals(counts, counts(x)));
        long[] behind = Made.seen(x);
        // The first nine are of the island, then come what is told of seven makers.
        for (int i = 0; i < 10 + 7 * 7; i++) {
            SAID.is("seen " + i, behind[i], i == 9 ? 2 : before[i]);
        }
    }

    /** All of an island becomes other than it was. */
    private static void change(NoneMayLeave x) {
        x.parts(8);
        x.maker(1, 1, 1);
        x.knows(0, 6, true);
        x.knows(1, 1, false);
        x.kin(0, 1, false);
        x.kin(2, 3, true);
        x.bid(0, 99);
        x.deed(1, 0);
        x.deed(5, 1);
        x.deed(4, 2);
        x.ask(0, 1);
        x.ask(1, 2);
        x.month();
        x.seed(3);
    }

    private static void restore() {
        SAID.promise(44);
        SAID.says("All is as THE IMAGE has it");
        NoneMayLeave x = Made.rich();
        x.image();
        long[] before = Made.seen(x);
        for (int times = 0; times < 2; times++) {
            change(x);
            SAID.is("status(1): changed", x.status(1), 8);
            SAID.is("restore()", x.restore(), 7);
            long[] behind = Made.seen(x);
            for (int i = 0; i < before.length; i++) {
                SAID.is("seen " + i, behind[i], before[i]);
            }
        }
        NoneMayLeave y = new NoneMayLeave();
        y.image();
        change(y);
        y.maker(0, 0, 0);
        SAID.is("restore() to a new object", y.restore(), 0);
        SAID.is("status(0)", y.status(0), 0);
        SAID.is("status(1)", y.status(1), 4);
        SAID.is("status(8)", y.status(8), 1);
        SAID.is("maker anew", y.maker(6, 5, 4), 0);
        int[] due = {6, 5, 4, 0, 0, 0, 0};
        for (int what = 0; what < 7; what++) {
            SAID.is("makerOf(0, " + what + ") anew", y.makerOf(0, what), due[what]);
        }
        y.image();
        y.month();
        SAID.is("restore() to the latest", y.restore(), 1);
        SAID.is("status(7)", y.status(7), 0);
    }

    private static void restoredShelves() {
        SAID.says("SHELVES with MAKERS hold those of these numbers, or NOTHING: how many MAKERS.");
        NoneMayLeave x = Made.rich();
        x.show(0, 5);
        x.show(1, 6);
        // The image is of 0 to 5.
        SAID.is("restore()", x.restore(), 6);
        int[] due = {5, -1, 102, 103, 1, -1, 100, -1};
        for (int s = 0; s < 8; s++) {
            SAID.is("holds(" + s + ")", x.holds(s), due[s]);
        }
        SAID.is("element(2, 0): rows are as they were", x.element(2, 0), 3);
        SAID.is("maker", x.maker(0, 0, 0), 6);
        SAID.is("holds(1): still NOTHING", x.holds(1), -1);
        NoneMayLeave y = new NoneMayLeave();
        y.maker(0, 0, 11);
        y.image();
        y.maker(1, 0, 22);
        y.show(0, 0);
        y.show(1, 1);
        y.restore();
        y.maker(2, 0, 33);
        SAID.is("says(0, 0)", y.says(0, 0), 11);
        SAID.is("says(1, 0)", y.says(1, 0), -3);
        SAID.is("set(1, 0, 0)", y.set(1, 0, 0), -3);
        NoneMayLeave more = new NoneMayLeave();
        more.maker(0, 0, 1);
        more.maker(0, 0, 2);
        more.image();
        more.show(7, 1);
        SAID.is("restore()", more.restore(), 2);
        SAID.is("holds(7): the last of them", more.holds(7), 1);
        more.maker(0, 0, 3);
        for (int s = 0; s < 8; s++) {
            more.show(s, 2);
        }
        more.restore();
        for (int s = 0; s < 8; s++) {
            SAID.is("holds(" + s + "): he was made later", more.holds(s), -1);
        }
        SAID.says("-6 there is none.");
        SAID.refused(NoneMayLeave::new, "restore() of a new object", z -> z.restore(), -6);
        SAID.refused(() -> Made.by("maker 0 0 0"), "restore() without an image", z -> z.restore(), -6);
    }

    // ---- status

    private static void status() {
        SAID.promise(45);
        SAID.says("How many: 0 MAKERS, 1 PARTS, 2 at HOME, 3 ABROAD, 4 DEAD, 5 FEAR, 6 PURSE, 7 MONTHS, 8 SEED, "
            + "9 bodies that ran in the latest act() (all, kept or not)");
        int[] due = {7, 4, 4, 1, 1, 15, 431, 1, 77, 10};
        for (int what = 0; what < due.length; what++) {
            int of = what;
            SAID.quiet(Made::rich, "status(" + what + ")", x -> x.status(of), due[what]);
        }
        NoneMayLeave x = Made.plain(8, new int[8], new int[0]);
        int[] home = {8, 8, 8, 0, 0, 0, 100, 0, 1, 0};
        for (int what = 0; what < home.length; what++) {
            SAID.is("status(" + what + ") of eight at home", x.status(what), home[what]);
        }
        for (int m = 0; m < 8; m++) {
            x.bid(m, 0);
        }
        SAID.is("status(2) of eight abroad", x.status(2), 0);
        SAID.is("status(3) of eight abroad", x.status(3), 8);
        for (int m = 0; m < 8; m++) {
            x.deed(m, 1);
        }
        SAID.is("status(3) of eight dead", x.status(3), 0);
        SAID.is("status(4) of eight dead", x.status(4), 8);
        SAID.is("status(0) of eight dead", x.status(0), 8);
    }

    private static void statusRefusals() {
        SAID.says("11 to 17: REFUSALS -1 to -7.");
        for (int i = 11; i <= 17; i++) {
            int of = i;
            SAID.quiet(NoneMayLeave::new, "status(" + i + ") of a new object", x -> x.status(of), 0);
        }
        NoneMayLeave x = new NoneMayLeave();
        x.maker(0, 0, 0);
        x.show(1, 0);
        int[] times = {7, 6, 5, 4, 3, 2, 1};
        for (int i = 0; i < 7; i++) {
            for (int again = 0; again < times[i]; again++) {
                refuse(x, -1 - i);
            }
        }
        for (int i = 0; i < 7; i++) {
            SAID.is("status(" + (11 + i) + ")", x.status(11 + i), times[i]);
        }
        SAID.says("NONE for another what.");
        for (int what : new int[] {-1, 10, 18, 19, 100, Integer.MIN_VALUE, Integer.MAX_VALUE}) {
            SAID.quiet(Made::rich, "status(" + what + ")", y -> y.status(what), -1);
        }
    }

    /** A call that is refused with this number; shelf 0 holds nothing, 1 a maker. */
    private static void refuse(NoneMayLeave x, int no) {
        long answered;
        switch (no) {
            case -1:
                answered = x.row(8, 0, 0);
                break;
            case -2:
                answered = x.island(1);
                break;
            case -3:
                answered = x.says(0, 0);
                break;
            case -4:
                answered = x.row(0, 0, -1);
                break;
            case -5:
                answered = x.deed(0, 9);
                break;
            case -6:
                answered = x.ask(9, 9);
                break;
            default:
                answered = x.row(0, 0, 161);
                break;
        }
        SAID.is("a call that is refused", answered, no);
    }
}
