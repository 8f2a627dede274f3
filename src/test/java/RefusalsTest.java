import java.util.function.ToLongFunction;

/** The document's paragraphs REFUSALS and Details, sentence by sentence. */
public final class RefusalsTest {
    private static final Said SAID = new Said("RefusalsTest");
    private static final int NOTHING = Made.NOTHING;
    private static final int A_MAKER = Made.A_MAKER;
    private static final int BYTES = Made.BYTES;
    private static final int INTS = Made.INTS;
    private static final int LONGS = Made.LONGS;

    private RefusalsTest() {
    }

    public static void main(String[] args) {
        SAID.between("in which they began; the first 20 are kept.", "## Promise 1: ");
        answers();
        order();
        nobody();
        other();
        nothingAndBelow();
        beyond();
        wrong();
        room();
        goesWithAnother();
        monthPasses();
        written();
        counciled();
        told();
        wordsWhole();
        SAID.end();
    }

    private static void no(String call, ToLongFunction<NoneMayLeave> asks, int no) {
        SAID.refused(Made::rich, call, asks, no);
    }

    private static void answers() {
        SAID.says("REFUSALS (the call answers the number");
        no("row(8, 0, 0)", x -> x.row(8, 0, 0), -1);
        no("set(A_MAKER, 0, 0)", x -> x.set(A_MAKER, 0, 0), -2);
        no("set(NOTHING, 0, 0)", x -> x.set(NOTHING, 0, 0), -3);
        no("row(0, 0, -1)", x -> x.row(0, 0, -1), -4);
        no("set(BYTES, 5, 0)", x -> x.set(BYTES, 5, 0), -5);
        no("row(0, 4, 0)", x -> x.row(0, 4, 0), -6);
        no("row(0, 0, 161)", x -> x.row(0, 0, 161), -7);
        SAID.says("nothing changes but how many there were");
        no("row on a row", x -> x.row(BYTES, 9, 3), -6);
        no("row on a maker", x -> x.row(A_MAKER, 0, 999), -7);
        no("show on a row", x -> x.show(BYTES, 9), -1);
        no("copy from behind the end", x -> x.copy(BYTES, BYTES, 0, 1, 5), -5);
        no("maker", x -> x.maker(0, 99, 0), -6);
        no("kin", x -> x.kin(2, 2, true), -6);
        no("knows", x -> x.knows(2, 4, true), -6);
        no("ask", x -> x.ask(1, 10000), -6);
        no("bid", x -> x.bid(0, 432), -6);
        no("deed", x -> x.deed(0, 1), -6);
        no("done", x -> x.done(BYTES, 2), -6);
        no("years", x -> x.years(0), -6);
        counts();
    }

    private static void counts() {
        NoneMayLeave x = new NoneMayLeave();
        x.maker(0, 0, 0);
        x.show(1, 0);
        for (int times = 1; times <= 4; times++) {
            x.row(9, 0, 0);
            x.set(1, 0, 0);
            x.set(0, 0, 0);
            x.row(0, 0, -1);
            x.makerOf(9, 0);
            x.ask(9, 9);
            x.row(0, 0, 161);
            for (int i = 11; i <= 17; i++) {
                SAID.is("status(" + i + ")", x.status(i), times);
            }
        }
        NoneMayLeave y = new NoneMayLeave();
        y.restore();
        y.image();
        y.row(0, 0, 999);
        y.restore();
        SAID.is("status(16): no image has them", y.status(16), 1);
        SAID.is("status(17): no image has them", y.status(17), 1);
    }

    /** One call after the other that fits one refusal less: each is answered by the first that fits. */
    private static void order() {
        SAID.says("the first that fits, in this order)");
        no("row: no shelf, below, sort", x -> x.row(8, 9, -1), -1);
        no("row: below, sort", x -> x.row(0, 9, -1), -4);
        no("row: sort, room", x -> x.row(0, 9, 161), -6);
        no("row: room", x -> x.row(0, 3, 161), -7);
        no("copy: no shelf, a maker, below", x -> x.copy(8, A_MAKER, -1, 0, -1), -1);
        no("copy: nothing, a maker, below", x -> x.copy(NOTHING, A_MAKER, -1, 0, -1), -2);
        no("copy: two sorts, below, no element", x -> x.copy(BYTES, INTS, -1, 0, -1), -2);
        no("copy: nothing, below, no element", x -> x.copy(NOTHING, INTS, -1, 0, -1), -3);
        no("copy: below, no element", x -> x.copy(BYTES, BYTES, -1, 0, -1), -4);
        no("copy: no element", x -> x.copy(BYTES, BYTES, -1, 0, 0), -5);
        no("says: no kind, nothing", x -> x.says(NOTHING, 7), -1);
        no("maker: no kind, a", x -> x.maker(7, 10, 0), -1);
        no("letter: below, key", x -> x.letter(BYTES, -1, 8), -4);
        no("letter: no element, key", x -> x.letter(BYTES, 6, 8), -5);
        no("letter: key", x -> x.letter(BYTES, 5, 8), -6);
        no("tries: no element, weights", x -> x.tries(BYTES, 4), -5);
        no("who: no element, a set of others", x -> x.who(LONGS, Made.SHORTS, 6), -5);
        no("behind: what, wrong", x -> x.behind(BYTES, 1, 3), -5);
        no("deed: no maker, what", x -> x.deed(7, 3), -1);
        no("deed: what, can't be", x -> x.deed(6, 3), -5);
        no("kin: no maker, the same", x -> x.kin(9, 9, true), -1);
        no("knows: no maker, no part", x -> x.knows(9, 9, true), -1);
        no("bid: no maker, b", x -> x.bid(9, -1), -1);
        SAID.refused(NoneMayLeave::new, "years: no makers, n", x -> x.years(0), -5);
        SAID.refused(RefusalsTest::eight, "maker: a, room", x -> x.maker(0, 10, 0), -6);
        SAID.refused(RefusalsTest::eight, "maker: kind, a, room", x -> x.maker(9, 10, 0), -1);
        SAID.refused(RefusalsTest::eight, "maker: room", x -> x.maker(0, 9, 0), -7);
    }

    private static NoneMayLeave eight() {
        return Made.plain(4, new int[8], new int[0]);
    }

    private static void nobody() {
        SAID.says("-1 NOBODY: no such SHELF, MAKER, KIND.");
        for (int s : new int[] {-1, 8, Integer.MIN_VALUE, Integer.MAX_VALUE}) {
            no("row(" + s + ", ..)", x -> x.row(s, 0, 0), -1);
            no("set(" + s + ", ..)", x -> x.set(s, 0, 0), -1);
            no("island(" + s + ")", x -> x.island(s), -1);
            no("judge(" + s + ", ..)", x -> x.judge(s, 0), -11);
        }
        for (int m : new int[] {-2, 7, 8, Integer.MIN_VALUE, Integer.MAX_VALUE}) {
            no("show(0, " + m + ")", x -> x.show(0, m), -1);
            no("knows(" + m + ", ..)", x -> x.knows(m, 0, true), -1);
            no("kin(0, " + m + ", ..)", x -> x.kin(0, m, true), -1);
            no("bid(" + m + ", ..)", x -> x.bid(m, 0), -1);
            no("deed(" + m + ", ..)", x -> x.deed(m, 0), -1);
        }
        for (int kind : new int[] {-1, 7, Integer.MIN_VALUE, Integer.MAX_VALUE}) {
            no("maker(" + kind + ", ..)", x -> x.maker(kind, 0, 0), -1);
            no("says(A_MAKER, " + kind + ")", x -> x.says(A_MAKER, kind), -1);
        }
    }

    private static void other() {
        SAID.says("-2 OTHER: a SHELF that holds a MAKER where a ROW is wanted");
        no("set", x -> x.set(A_MAKER, 0, 0), -2);
        no("copy from", x -> x.copy(A_MAKER, BYTES, 0, 0, 0), -2);
        no("copy to", x -> x.copy(BYTES, A_MAKER, 0, 0, 0), -2);
        no("island", x -> x.island(A_MAKER), -2);
        no("letter", x -> x.letter(A_MAKER, 0, 0), -2);
        no("keys", x -> x.keys(A_MAKER, 0, 0), -2);
        no("tries", x -> x.tries(A_MAKER, -1), -2);
        no("who", x -> x.who(A_MAKER, BYTES, 1), -2);
        no("who, the next", x -> x.who(BYTES, A_MAKER, 1), -2);
        no("judge", x -> x.judge(A_MAKER, 0), -12);
        no("behind", x -> x.behind(A_MAKER, 0, 0), -2);
        no("done", x -> x.done(A_MAKER, 0), -2);
        SAID.says("or the other way about");
        no("says of a row", x -> x.says(BYTES, 0), -2);
        no("says of an empty row", x -> x.says(Made.EMPTY, 0), -2);
        SAID.says("ROWS of two SORTS");
        no("copy of bytes to ints", x -> x.copy(BYTES, INTS, 0, 0, 0), -2);
        no("copy of longs to shorts", x -> x.copy(LONGS, Made.SHORTS, 0, 0, 0), -2);
        SAID.says("a MAKER who isn't of the KIND wanted, or one under it.");
        no("says: a husband is no father", x -> x.says(A_MAKER, 3), -2);
        no("says: a husband is no double", x -> x.says(A_MAKER, 2), -2);
        SAID.quiet(Made::rich, "says: a husband as a maker", x -> x.says(A_MAKER, 0), 20);
        SAID.quiet(Made::rich, "says: a husband", x -> x.says(A_MAKER, 1), 2);
        SAID.quiet(Made::rich, "says: a boy as a foundling", x -> x.says(Made.A_DEAD, 4), 63 + 15 / 2);
    }

    private static void nothingAndBelow() {
        SAID.says("-3 NOTHING: a SHELF that holds NOTHING.");
        no("set", x -> x.set(NOTHING, 0, 0), -3);
        no("copy from", x -> x.copy(NOTHING, BYTES, 0, 0, 0), -3);
        no("copy to", x -> x.copy(BYTES, NOTHING, 0, 0, 0), -3);
        no("says", x -> x.says(NOTHING, 0), -3);
        no("island", x -> x.island(NOTHING), -3);
        no("letter", x -> x.letter(NOTHING, 0, 0), -3);
        no("keys", x -> x.keys(NOTHING, 0, 0), -3);
        no("tries", x -> x.tries(NOTHING, -1), -3);
        no("who", x -> x.who(NOTHING, BYTES, 1), -3);
        no("who, the next", x -> x.who(BYTES, NOTHING, 1), -3);
        no("judge", x -> x.judge(NOTHING, 0), -13);
        no("behind", x -> x.behind(NOTHING, 0, 0), -3);
        no("done", x -> x.done(NOTHING, 0), -3);
        SAID.says("-4 BELOW: a size below 0.");
        for (int n : new int[] {-1, Integer.MIN_VALUE}) {
            no("row of " + n, x -> x.row(0, 0, n), -4);
            no("copy of " + n, x -> x.copy(BYTES, BYTES, 0, 0, n), -4);
            no("letter of " + n, x -> x.letter(BYTES, n, 0), -4);
            no("keys of " + n, x -> x.keys(BYTES, n, 0), -4);
            no("who of " + n, x -> x.who(BYTES, BYTES, n), -4);
            no("judge of " + n, x -> x.judge(BYTES, n), -14);
            no("behind of " + n, x -> x.behind(BYTES, n, 0), -4);
            no("done of " + n, x -> x.done(BYTES, n), -4);
        }
    }

    private static void beyond() {
        SAID.says("-5 BEYOND: an element that isn't there");
        for (int i : new int[] {-1, 5, 160, Integer.MIN_VALUE, Integer.MAX_VALUE}) {
            no("set(BYTES, " + i + ", 0)", x -> x.set(BYTES, i, 0), -5);
        }
        no("set on an empty row", x -> x.set(Made.EMPTY, 0, 0), -5);
        for (int n : new int[] {6, 41, 161, Integer.MAX_VALUE}) {
            no("letter of " + n, x -> x.letter(BYTES, n, 0), -5);
            no("keys of " + n, x -> x.keys(BYTES, n, 0), -5);
            no("who of " + n, x -> x.who(BYTES, INTS, n), -5);
            no("judge of " + n, x -> x.judge(BYTES, n), -15);
            no("behind of " + n, x -> x.behind(BYTES, n, 0), -5);
            no("done of " + n, x -> x.done(BYTES, n), -5);
        }
        SAID.says("nothing such to be told of.");
        for (int what : new int[] {-1, 7, Integer.MIN_VALUE, Integer.MAX_VALUE}) {
            no("makerOf(0, " + what + ")", x -> x.makerOf(0, what), -5);
            no("makerOf(" + what + ", 0)", x -> x.makerOf(what, 0), -5);
            no("abroad(" + what + ")", x -> x.abroad(what), -5);
            no("cheapest(" + what + ")", x -> x.cheapest(what), -15);
            no("alone(" + what + ")", x -> x.alone(what), -15);
            no("deed(0, " + what + ")", x -> x.deed(0, what), -5);
            no("behind(BYTES, 0, " + what + ")", x -> x.behind(BYTES, 0, what), -5);
        }
    }

    private static void wrong() {
        SAID.says("-6 WRONG: a number that may not be");
        no("without(9)", x -> x.without(9), -6);
        no("sold(0)", x -> x.sold(0), -6);
        no("lessons(-1)", x -> x.lessons(-1), -16);
        no("offer(1000)", x -> x.offer(1000), -6);
        no("parts(3)", x -> x.parts(3), -6);
        no("years(241)", x -> x.years(241), -6);
        SAID.says("a FAULT");
        SAID.is("island of 'x'", Texts.island(new NoneMayLeave(), "x"), -6);
        no("island of an empty row", x -> x.island(Made.EMPTY), -6);
        SAID.says("what can't be as things stand.");
        no("bid to one abroad", x -> x.bid(5, 9), -6);
        no("kill one at home", x -> x.deed(0, 1), -6);
        no("done of what is wrong", x -> x.done(BYTES, 1), -6);
        no("behind what is wrong", x -> x.behind(BYTES, 1, 0), -6);
        SAID.refused(NoneMayLeave::new, "restore without an image", x -> x.restore(), -6);
    }

    private static void room() {
        SAID.says("-7 ROOM: more than may be.");
        SAID.refused(RefusalsTest::eight, "a ninth maker", x -> x.maker(0, 0, 0), -7);
        for (int n : new int[] {161, Integer.MAX_VALUE}) {
            no("row of " + n, x -> x.row(NOTHING, 3, n), -7);
        }
    }

    // ---- details

    private static void goesWithAnother() {
        SAID.says("Details. -5 for a number that goes with another one (an i of a k, one that is found by a number) "
            + "is looked at only if that other one may be");
        no("council(0, 0)", x -> x.council(0, 0), -5);
        no("council(1, 1)", x -> x.council(1, 1), -5);
        no("council(2, 2)", x -> x.council(2, 2), -5);
        no("council(2, -2)", x -> x.council(2, -2), -5);
        SAID.says("else it is -6.");
        no("council(3, 3)", x -> x.council(3, 3), -6);
        no("council(3, 0)", x -> x.council(3, 0), -6);
        no("council(-1, 9)", x -> x.council(-1, 9), -6);
        no("council(MIN, MIN)", x -> x.council(Integer.MIN_VALUE, Integer.MIN_VALUE), -6);
    }

    private static void monthPasses() {
        SAID.says("Details. When a MONTH passes, all who were ABROAD, DOUBLES too, count for what comes HOME.");
        NoneMayLeave x = Made.by("parts 5;maker 2 0 0;maker 0 0 0;maker 5 0 0;maker 0 0 0",
            "knows 0 0;knows 1 1;knows 2 2;knows 3 3;goes 0;goes 1;goes 2");
        SAID.is("month()", x.month(), 2);
        SAID.is("makerOf(0, 3): the spy behind him counts", x.makerOf(0, 3), 7);
        SAID.is("makerOf(2, 3): the double ahead of him counts", x.makerOf(2, 3), 7);
        SAID.is("makerOf(1, 3)", x.makerOf(1, 3), 2);
        SAID.is("makerOf(3, 3)", x.makerOf(3, 3), 8);
    }

    private static void written() {
        SAID.says("Who comes HOME by WRITE is at HOME for those behind.");
        NoneMayLeave x = Made.by("maker 0 0 0;maker 2 0 0;maker 0 0 0;maker 0 0 0;kin 1 0;kin 1 2;kin 2 3",
            "goes 0;goes 1;goes 2;goes 3;fear 99");
        int seed = Drawn.seedFor(new int[] {100, 100, 100}, new int[] {5, 98, 0});
        x.seed(seed);
        SAID.is("write()", x.write(), 3);
        int[] places = {1, 0, 0, 0};
        for (int m = 0; m < 4; m++) {
            SAID.is("makerOf(" + m + ", 5)", x.makerOf(m, 5), places[m]);
        }
        SAID.says("There is one DRAW for each who may come.");
        SAID.is("status(8): three draws", x.status(8), Drawn.behind(seed, 3));
        x.seed(9);
        SAID.is("write(): 0 has kin at home now", x.write(), 99 > Drawn.below(9, 100) ? 1 : 0);
        SAID.is("status(8): one draw", x.status(8), Drawn.behind(9, 1));
        NoneMayLeave y = Made.by("maker 2 0 0;maker 2 0 0;maker 0 0 0;goes 0;goes 1;goes 2");
        SAID.is("write(): no FEAR", y.write(), 0);
        SAID.is("status(8): two draws, though nobody comes", y.status(8), Drawn.behind(1, 2));
        NoneMayLeave kin = Made.by("maker 2 0 0;maker 0 0 0;kin 0 1;goes 0");
        kin.write();
        SAID.is("status(8): one draw for a double with kin at home", kin.status(8), Drawn.behind(1, 1));
        NoneMayLeave home = Made.by("maker 2 0 0;maker 5 0 0;maker 2 0 0;maker 0 0 0;dies 1");
        home.deed(2, 0);
        SAID.is("write(): nobody abroad", home.write(), 0);
        SAID.is("status(8): no draw", home.status(8), 1);
    }

    private static void counciled() {
        SAID.says("A move of the COUNCIL is done ahead of the next one.");
        NoneMayLeave x = Made.plain(4, new int[] {10, 20}, new int[] {15, 15});
        x.maker(0, 0, 30);
        Made.know(x, 2, 15);
        SAID.is("council(2, NONE): FEAR by both", x.council(2, -1), 40);
        NoneMayLeave one = Made.plain(4, new int[] {10}, new int[] {15});
        SAID.is("council(2, 0)", one.council(2, 0), 0);
        SAID.is("council(2, 1)", one.council(2, 1), 10);
        NoneMayLeave fear = Made.plain(4, new int[] {0, 0, 0}, new int[] {15, 15, 15});
        fear.ask(0, 96);
        fear.ask(1, 9999);
        SAID.is("council(2, NONE): FEAR is 99 at most by either", fear.council(2, -1), 99);
        SAID.is("council(2, 0): so one is enough", fear.council(2, 0), 0);
        SAID.is("council(2, 1)", fear.council(2, 1), 10);
        SAID.says("SHUT is for one at HOME, KILL for one ABROAD.");
        // 0 is abroad and alone knows all; who is at home knows nothing.
        NoneMayLeave abroad = Made.plain(4, new int[] {0, 0}, new int[] {15, 0});
        abroad.bid(0, 0);
        SAID.is("council(1, 0): killed, not shut up", abroad.council(1, 0), 20);
        NoneMayLeave home = Made.plain(4, new int[] {0, 0}, new int[] {0, 15});
        SAID.is("council(1, 0): shut up, not killed", home.council(1, 0), 11);
        NoneMayLeave shut = Made.plain(4, new int[] {0, 7}, new int[] {15, 15});
        shut.deed(0, 0);
        shut.bid(1, 12);
        SAID.is("council(1, 0): not one shut up", shut.council(1, 0), 21);
        no("shut one abroad", y -> y.deed(5, 0), -6);
        no("kill one at home", y -> y.deed(0, 1), -6);
    }

    private static void told() {
        SAID.says("Numbers of a text may begin with 0.");
        NoneMayLeave x = Made.by("parts 0006;maker 01 002 0030;maker 00 0000 0;knows 00 05;kin 00 001;fear 09;purse 0042");
        int[] due = {1, 2, 30, 32, 2, 0, 30 + 9 + 5};
        for (int what = 0; what <= 6; what++) {
            SAID.is("makerOf(0, " + what + ")", x.makerOf(0, what), due[what]);
        }
        SAID.is("status(1)", x.status(1), 6);
        SAID.is("status(6)", x.status(6), 42);
        SAID.is("island", Texts.island(x, "goes 000;dies 0001"), 2);
        SAID.is("status(3)", x.status(3), 1);
        SAID.is("status(4)", x.status(4), 1);
        SAID.says("Elements of a ROW of longs count by their lowest 32 bits wherever a ROW tells something.");
        long high = 1L << 32;
        NoneMayLeave y = Made.by("maker 0 0 1;maker 0 0 2;maker 0 0 3");
        Texts.numbers(y, 0, 3, high + 'f', 'e' - high, 'a' + 9 * high, 'r', high + ' ', 8 * high + '3');
        SAID.is("island", y.island(0), 1);
        SAID.is("status(5)", y.status(5), 3);
        Texts.numbers(y, 0, 3, high + 1, high, 3 - high, high + 3);
        Texts.numbers(y, 1, 3, high + 1, high, high + 5, high);
        SAID.is("letter", y.letter(0, 4, 0), 1 | 2 | 8);
        SAID.is("keys", y.keys(0, 4, 1 | 2 | 8), 1);
        SAID.is("tries", y.tries(0, 0), 2);
        SAID.is("tries: the mean", y.tries(0, -1), (3 + 6 + 3) * 1000 / 7);
        SAID.is("who", y.who(0, 1, 3), 1);
        SAID.is("who: the last didn't make it", y.who(0, 1, 4), 0);
        Texts.numbers(y, 0, 3, high, high + 100, 300 - high, high + 200);
        SAID.is("judge", y.judge(0, 4), 3);
        SAID.is("behind", y.behind(0, 3, 2), 12);
        SAID.is("done", y.done(0, 3), 1);
        SAID.is("makerOf(0, 5)", y.makerOf(0, 5), 3);
    }

    private static void wordsWhole() {
        SAID.says("Whether there is room for a word is asked when its letters stand whole:");
        SAID.is("fault of 'maker'", Texts.fault(eight(), "maker"), 0);
        SAID.is("fault of 'maker 0 0 0'", Texts.fault(eight(), "maker 0 0 0"), 0);
        SAID.is("fault of 'makerx'", Texts.fault(eight(), "makerx"), 0);
        SAID.is("fault of 'fear 1;maker'", Texts.fault(eight(), "fear 1;maker"), 7);
        SAID.says("until then the first element that is not as it is the FAULT, or the number of elements.");
        SAID.is("fault of 'makex'", Texts.fault(eight(), "makex"), 4);
        SAID.is("fault of 'mx'", Texts.fault(eight(), "mx"), 1);
        SAID.is("fault of 'make'", Texts.fault(eight(), "make"), 4);
        SAID.is("fault of 'm'", Texts.fault(eight(), "m"), 1);
        SAID.is("fault of 'fear 1;mak'", Texts.fault(eight(), "fear 1;mak"), 10);
        SAID.is("fault of 'fear 1;mako 0 0 0'", Texts.fault(eight(), "fear 1;mako 0 0 0"), 10);
    }
}
