import java.util.function.ToLongFunction;

/** Promises 28 to 34, sentence by sentence. */
public final class PromisesToldTest {
    private static final Said SAID = new Said("PromisesToldTest");
    private static final int A_MAKER = Made.A_MAKER;
    private static final int NOTHING = Made.NOTHING;
    /** Of the rich island: five elements 1, 0, 0, 0, 0. */
    private static final int BYTES = Made.BYTES;
    /** Of the rich island: 45 elements, more than may be told. */
    private static final int INTS = Made.INTS;
    private static final int S = 0;
    private static final int T = 1;

    private PromisesToldTest() {
    }

    public static void main(String[] args) {
        letter();
        keys();
        tries();
        triesRefused();
        who();
        whoRefused();
        judge();
        judgeRefused();
        behind();
        done();
        SAID.end();
    }

    private static void no(String call, ToLongFunction<NoneMayLeave> asks, int no) {
        SAID.refused(Made::rich, call, asks, no);
    }

    private static NoneMayLeave told(long... numbers) {
        NoneMayLeave x = Made.rich();
        Texts.numbers(x, S, 2, numbers);
        return x;
    }

    /** As told, with the last number behind zeros. */
    private static NoneMayLeave behindZeros(int zeros, long last) {
        long[] numbers = new long[zeros + 1];
        numbers[zeros] = last;
        return told(numbers);
    }

    private static void letter() {
        SAID.promise(28);
        SAID.says("A LETTER, the first n elements (0 to 40) of the ROW in SHELF s, by a KEY: PARTS told.");
        SAID.quiet(() -> told(0, 3, 7), "letter(S, 0, 7)", x -> x.letter(S, 0, 7), 0);
        SAID.quiet(() -> told(0, 3, 7), "letter(S, 1, 0)", x -> x.letter(S, 1, 0), 1);
        SAID.quiet(() -> told(0, 3, 7), "letter(S, 2, 0)", x -> x.letter(S, 2, 0), 9);
        SAID.quiet(() -> told(0, 3, 7), "letter(S, 3, 0)", x -> x.letter(S, 3, 0), 9);
        SAID.quiet(() -> told(0, 3, 7), "letter(S, 3, 1)", x -> x.letter(S, 3, 1), 3);
        SAID.quiet(() -> told(0, 3, 7), "letter(S, 3, 7)", x -> x.letter(S, 3, 7), 4);
        SAID.quiet(() -> behindZeros(39, 2), "letter of 40", x -> x.letter(S, 40, 0), 5);
        SAID.quiet(() -> behindZeros(40, 99), "letter: the 41st doesn't count", x -> x.letter(S, 40, 0), 1);
        SAID.says("-1");
        no("letter(8, -1, 9)", x -> x.letter(8, -1, 9), -1);
        no("letter(-1, 99, 9)", x -> x.letter(-1, 99, 9), -1);
        SAID.says("-2");
        no("letter(A_MAKER, -1, 9)", x -> x.letter(A_MAKER, -1, 9), -2);
        SAID.says("-3");
        no("letter(NOTHING, -1, 9)", x -> x.letter(NOTHING, -1, 9), -3);
        SAID.says("-4 n");
        no("letter(BYTES, -1, 9)", x -> x.letter(BYTES, -1, 9), -4);
        SAID.says("-5 fewer elements");
        no("letter(BYTES, 6, 9)", x -> x.letter(BYTES, 6, 9), -5);
        no("letter(INTS, 46, 9)", x -> x.letter(INTS, 46, 9), -5);
        no("letter(BYTES, 41, 0)", x -> x.letter(BYTES, 41, 0), -5);
        no("letter(EMPTY, 1, 0)", x -> x.letter(Made.EMPTY, 1, 0), -5);
        SAID.says("-6 n above 40, no KEY, a word that may not be.");
        no("letter(INTS, 41, 0)", x -> x.letter(INTS, 41, 0), -6);
        no("letter(INTS, 45, 0)", x -> x.letter(INTS, 45, 0), -6);
        for (int key : new int[] {8, -1, Integer.MIN_VALUE, Integer.MAX_VALUE}) {
            no("letter(BYTES, 1, " + key + ")", x -> x.letter(BYTES, 1, key), -6);
            no("letter(BYTES, 0, " + key + ")", x -> x.letter(BYTES, 0, key), -6);
        }
        for (int word : new int[] {8, -1, Integer.MIN_VALUE, Integer.MAX_VALUE}) {
            SAID.refused(() -> told(0, word), "letter: word " + word, x -> x.letter(S, 2, 0), -6);
            SAID.refused(() -> told(word, 0), "letter: first word " + word, x -> x.letter(S, 2, 0), -6);
            SAID.quiet(() -> told(0, word), "letter: ahead of word " + word, x -> x.letter(S, 1, 0), 1);
        }
    }

    private static void keys() {
        SAID.promise(29);
        SAID.says("KEYS by which it tells just a set of PARTS.");
        SAID.quiet(() -> told(0, 3), "keys(S, 2, {0, 3})", x -> x.keys(S, 2, 9), 1);
        SAID.quiet(() -> told(0, 3), "keys(S, 2, {1})", x -> x.keys(S, 2, 2), 1 << 1 | 1 << 6);
        SAID.quiet(() -> told(0, 3), "keys(S, 2, {})", x -> x.keys(S, 2, 0), 1 << 4);
        SAID.quiet(() -> told(0, 3), "keys(S, 2, all)", x -> x.keys(S, 2, 15), 0);
        SAID.quiet(() -> told(0, 3), "keys(S, 0, {})", x -> x.keys(S, 0, 0), 255);
        SAID.quiet(() -> behindZeros(39, 3), "keys of 40", x -> x.keys(S, 40, 9), 1);
        SAID.says("-1");
        no("keys(8, -1, 16)", x -> x.keys(8, -1, 16), -1);
        no("keys(-1, 99, 16)", x -> x.keys(-1, 99, 16), -1);
        SAID.says("-2");
        no("keys(A_MAKER, -1, 16)", x -> x.keys(A_MAKER, -1, 16), -2);
        SAID.says("-3");
        no("keys(NOTHING, -1, 16)", x -> x.keys(NOTHING, -1, 16), -3);
        SAID.says("-4");
        no("keys(BYTES, -1, 16)", x -> x.keys(BYTES, -1, 16), -4);
        SAID.says("-5");
        no("keys(BYTES, 6, 16)", x -> x.keys(BYTES, 6, 16), -5);
        no("keys(BYTES, 41, 0)", x -> x.keys(BYTES, 41, 0), -5);
        SAID.says("-6 also others than there are.");
        for (int set : new int[] {16, 31, -1, 256, Integer.MIN_VALUE, Integer.MAX_VALUE}) {
            no("keys(BYTES, 1, " + set + ")", x -> x.keys(BYTES, 1, set), -6);
            no("keys(BYTES, 0, " + set + ")", x -> x.keys(BYTES, 0, set), -6);
        }
        no("keys(INTS, 41, 0)", x -> x.keys(INTS, 41, 0), -6);
        SAID.refused(() -> told(0, 8), "keys: word 8", x -> x.keys(S, 2, 0), -6);
        SAID.refused(() -> told(-1, 0), "keys: word -1", x -> x.keys(S, 2, 0), -6);
        SAID.quiet(() -> told(0, 8), "keys: ahead of word 8", x -> x.keys(S, 1, 1), 1);
        NoneMayLeave eight = told(0, 7);
        eight.parts(8);
        SAID.is("keys of all eight", eight.keys(S, 2, 255), 0);
        SAID.is("keys of two of eight", eight.keys(S, 2, 129), 1);
        SAID.is("keys: others than eight", eight.keys(S, 2, 256), -6);
    }

    private static void tries() {
        SAID.promise(30);
        SAID.says("TRIES by the ROW in SHELF s: on the mean (i NONE), the i-th PART.");
        int[] due = {3, 1, 2, 0};
        for (int i = 0; i < 4; i++) {
            int place = i;
            SAID.quiet(() -> told(1, 5, 5, 9), "tries(S, " + i + ")", x -> x.tries(S, place), due[i]);
        }
        SAID.quiet(() -> told(1, 5, 5, 9), "tries(S, NONE)", x -> x.tries(S, -1), (9 + 10 + 15 + 4) * 1000 / 20);
        SAID.quiet(() -> told(99, 0, 0, 0), "tries(S, NONE): certain", x -> x.tries(S, -1), 1000);
        SAID.says("-1");
        no("tries(8, 9)", x -> x.tries(8, 9), -1);
        no("tries(-1, 0)", x -> x.tries(-1, 0), -1);
        SAID.says("-2");
        no("tries(A_MAKER, 9)", x -> x.tries(A_MAKER, 9), -2);
        SAID.says("-3");
        no("tries(NOTHING, 9)", x -> x.tries(NOTHING, 9), -3);
    }

    private static void triesRefused() {
        SAID.says("-5 fewer elements than PARTS");
        SAID.refused(() -> told(1, 100, 3), "tries(S, 0) of three", x -> x.tries(S, 0), -5);
        SAID.refused(() -> told(1, 2, 3), "tries(S, NONE) of three", x -> x.tries(S, -1), -5);
        SAID.quiet(() -> told(1, 2, 3, 4), "tries(S, NONE) of four", x -> x.tries(S, -1), 2000);
        no("tries(EMPTY, NONE)", x -> x.tries(Made.EMPTY, -1), -5);
        NoneMayLeave more = told(1, 2, 3, 4);
        more.parts(5);
        SAID.is("tries(S, 0) of four for five", more.tries(S, 0), -5);
        SAID.says("no such i");
        for (int i : new int[] {4, -2, 5, Integer.MIN_VALUE, Integer.MAX_VALUE}) {
            SAID.refused(() -> told(1, 2, 3, 4, 5), "tries(S, " + i + ")", x -> x.tries(S, i), -5);
        }
        SAID.refused(() -> told(1, 2, 3, 100), "tries(S, 4) ahead of the weights", x -> x.tries(S, 4), -5);
        SAID.says("-6 a WEIGHT that may not be");
        for (int weight : new int[] {100, -1, Integer.MIN_VALUE, Integer.MAX_VALUE}) {
            SAID.refused(() -> told(1, 2, 3, weight), "tries: last weight " + weight, x -> x.tries(S, 0), -6);
            SAID.refused(() -> told(weight, 2, 3, 4), "tries: first weight " + weight, x -> x.tries(S, -1), -6);
            SAID.quiet(() -> told(1, 0, 0, 0, weight), "tries: no weight " + weight, x -> x.tries(S, -1), 1000);
        }
        SAID.says("all of them 0.");
        SAID.refused(() -> told(0, 0, 0, 0, 1), "tries(S, NONE)", x -> x.tries(S, -1), -6);
        SAID.refused(() -> told(0, 0, 0, 0), "tries(S, 0)", x -> x.tries(S, 0), -6);
    }

    // ---- who

    /** Of seven makers told sets and whether each made it. */
    private static NoneMayLeave sets(long[] those, long[] made) {
        NoneMayLeave x = Made.rich();
        Texts.numbers(x, S, 1, those);
        Texts.numbers(x, T, 2, made);
        return x;
    }

    private static NoneMayLeave three() {
        return sets(new long[] {127, 7, 1}, new long[] {1, 1, 0});
    }

    private static NoneMayLeave fortyOne() {
        long[] those = new long[41];
        those[39] = 3;
        those[40] = 4;
        return sets(those, new long[41]);
    }

    private static void who() {
        SAID.promise(31);
        SAID.says("WHO by the first n elements (1 to 40) of the ROWS in SHELVES s and t.");
        int[] due = {127, 7, 6};
        for (int n = 1; n <= 3; n++) {
            int many = n;
            SAID.quiet(PromisesToldTest::three, "who(S, T, " + n + ")", x -> x.who(S, T, many), due[n - 1]);
        }
        SAID.quiet(PromisesToldTest::fortyOne, "who of 39", x -> x.who(S, T, 39), 127);
        SAID.quiet(PromisesToldTest::fortyOne, "who of 40", x -> x.who(S, T, 40), 127 - 3);
        SAID.quiet(() -> sets(new long[] {3}, new long[] {2, 9}), "who: one row is longer", x -> x.who(S, T, 1), 3);
        SAID.quiet(PromisesToldTest::three, "who of one row: sets that made it", x -> x.who(S, S, 3), 1);
        SAID.says("-1");
        no("who(8, A_MAKER, -1)", x -> x.who(8, A_MAKER, -1), -1);
        no("who(A_MAKER, 8, -1)", x -> x.who(A_MAKER, 8, -1), -1);
        no("who(-1, BYTES, 1)", x -> x.who(-1, BYTES, 1), -1);
        no("who(BYTES, -1, 1)", x -> x.who(BYTES, -1, 1), -1);
        SAID.says("-2");
        no("who(A_MAKER, NOTHING, -1)", x -> x.who(A_MAKER, NOTHING, -1), -2);
        no("who(NOTHING, A_MAKER, -1)", x -> x.who(NOTHING, A_MAKER, -1), -2);
        SAID.says("-3");
        no("who(NOTHING, BYTES, -1)", x -> x.who(NOTHING, BYTES, -1), -3);
        no("who(BYTES, NOTHING, -1)", x -> x.who(BYTES, NOTHING, -1), -3);
    }

    private static void whoRefused() {
        SAID.says("-4 n");
        no("who(BYTES, EMPTY, -1)", x -> x.who(BYTES, Made.EMPTY, -1), -4);
        no("who(BYTES, BYTES, MIN)", x -> x.who(BYTES, BYTES, Integer.MIN_VALUE), -4);
        SAID.says("-5 fewer elements in either");
        no("who(BYTES, INTS, 6)", x -> x.who(BYTES, INTS, 6), -5);
        no("who(INTS, BYTES, 6)", x -> x.who(INTS, BYTES, 6), -5);
        no("who(BYTES, INTS, 41)", x -> x.who(BYTES, INTS, 41), -5);
        no("who(BYTES, EMPTY, 1)", x -> x.who(BYTES, Made.EMPTY, 1), -5);
        SAID.says("-6 n not 1 to 40");
        no("who(BYTES, BYTES, 0)", x -> x.who(BYTES, BYTES, 0), -6);
        no("who(EMPTY, EMPTY, 0)", x -> x.who(Made.EMPTY, Made.EMPTY, 0), -6);
        no("who(INTS, INTS, 41)", x -> x.who(INTS, INTS, 41), -6);
        no("who(INTS, INTS, 45)", x -> x.who(INTS, INTS, 45), -6);
        SAID.says("a SET of others than there are.");
        for (int set : new int[] {128, 255, -1, 129, Integer.MIN_VALUE, Integer.MAX_VALUE}) {
            long[] last = {1, set};
            long[] first = {set, 1};
            SAID.refused(() -> told(last), "who: last set " + set, x -> x.who(S, INTS, 2), -6);
            SAID.refused(() -> told(first), "who: first set " + set, x -> x.who(S, INTS, 2), -6);
            SAID.quiet(() -> told(last), "who: ahead of set " + set, x -> x.who(S, INTS, 1), 1);
        }
        NoneMayLeave none = new NoneMayLeave();
        Texts.numbers(none, S, 0, 0, 1);
        SAID.is("who: nobody there", none.who(S, S, 1), 0);
        SAID.is("who: a set, but nobody there", none.who(S, S, 2), -6);
    }

    // ---- months

    private static void judge() {
        SAID.promise(32);
        SAID.says("Told MONTHS by the first n elements (0 to 40) of the ROW in SHELF s: WRONG; NONE.");
        SAID.quiet(() -> told(7), "judge of 0", x -> x.judge(S, 0), -1);
        SAID.quiet(() -> told(7), "judge of 1", x -> x.judge(S, 1), 0);
        SAID.quiet(() -> told(0, 100, 300, 300), "judge of 3", x -> x.judge(S, 3), -1);
        SAID.quiet(() -> told(0, 100, 300, 300), "judge of 4", x -> x.judge(S, 4), 3);
        SAID.quiet(() -> behindZeros(39, 9), "judge of 39", x -> x.judge(S, 39), -1);
        SAID.quiet(() -> behindZeros(39, 9), "judge of 40", x -> x.judge(S, 40), 39);
        SAID.quiet(() -> behindZeros(40, 9), "judge: the 41st doesn't count", x -> x.judge(S, 40), -1);
    }

    private static void judgeRefused() {
        SAID.says("-11");
        no("judge(8, -1)", x -> x.judge(8, -1), -11);
        no("judge(-1, 0)", x -> x.judge(-1, 0), -11);
        SAID.says("-12");
        no("judge(A_MAKER, -1)", x -> x.judge(A_MAKER, -1), -12);
        SAID.says("-13");
        no("judge(NOTHING, -1)", x -> x.judge(NOTHING, -1), -13);
        SAID.says("-14 n");
        no("judge(BYTES, -1)", x -> x.judge(BYTES, -1), -14);
        no("judge(EMPTY, MIN)", x -> x.judge(Made.EMPTY, Integer.MIN_VALUE), -14);
        SAID.says("-15 fewer elements");
        no("judge(BYTES, 6)", x -> x.judge(BYTES, 6), -15);
        no("judge(BYTES, 41)", x -> x.judge(BYTES, 41), -15);
        no("judge(EMPTY, 1)", x -> x.judge(Made.EMPTY, 1), -15);
        SAID.says("-16 n above 40");
        no("judge(INTS, 41)", x -> x.judge(INTS, 41), -16);
        no("judge(INTS, 45)", x -> x.judge(INTS, 45), -16);
        SAID.says("(counted as -1 to -6).");
        NoneMayLeave x = Made.rich();
        int[] before = new int[8];
        for (int i = 1; i <= 7; i++) {
            before[i] = x.status(10 + i);
        }
        x.judge(8, 0);
        x.judge(A_MAKER, 0);
        x.judge(NOTHING, 0);
        x.judge(BYTES, -1);
        x.judge(BYTES, 6);
        x.judge(INTS, 41);
        for (int i = 1; i <= 7; i++) {
            SAID.is("status(" + (10 + i) + ")", x.status(10 + i), before[i] + (i < 7 ? 1 : 0));
        }
    }

    private static void behind() {
        SAID.promise(33);
        SAID.says("BEHIND them: MADE (what 0), PURSE (1), FEAR (2).");
        int[] purse = {431, 406, 406, 406};
        int[] fear = {15, 15, 25, 24};
        for (int n = 0; n <= 3; n++) {
            int many = n;
            SAID.quiet(() -> told(100, 300, 0, 1), "behind " + n + ": MADE", x -> x.behind(S, many, 0), 0);
            SAID.quiet(() -> told(100, 300, 0, 1), "behind " + n + ": PURSE", x -> x.behind(S, many, 1), purse[n]);
            SAID.quiet(() -> told(100, 300, 0, 1), "behind " + n + ": FEAR", x -> x.behind(S, many, 2), fear[n]);
        }
        NoneMayLeave all = Made.plain(4, new int[] {1}, new int[] {15});
        Texts.numbers(all, S, 1, 100);
        SAID.is("behind 1: MADE", all.behind(S, 1, 0), 1);
        SAID.is("behind 0: not MADE", all.behind(S, 0, 0), 0);
        SAID.says("-1");
        no("behind(8, -1, 3)", x -> x.behind(8, -1, 3), -1);
        no("behind(-1, 0, 0)", x -> x.behind(-1, 0, 0), -1);
        SAID.says("-2");
        no("behind(A_MAKER, -1, 3)", x -> x.behind(A_MAKER, -1, 3), -2);
        SAID.says("-3");
        no("behind(NOTHING, -1, 3)", x -> x.behind(NOTHING, -1, 3), -3);
        SAID.says("-4");
        no("behind(BYTES, -1, 3)", x -> x.behind(BYTES, -1, 3), -4);
        SAID.says("-5 also another what");
        no("behind(BYTES, 6, 0)", x -> x.behind(BYTES, 6, 0), -5);
        no("behind(BYTES, 41, 0)", x -> x.behind(BYTES, 41, 0), -5);
        for (int what : new int[] {3, -1, Integer.MIN_VALUE, Integer.MAX_VALUE}) {
            no("behind(BYTES, 0, " + what + ")", x -> x.behind(BYTES, 0, what), -5);
            no("behind(BYTES, 1, " + what + "): it is wrong too", x -> x.behind(BYTES, 1, what), -5);
            no("behind(INTS, 41, " + what + "): n above 40 too", x -> x.behind(INTS, 41, what), -5);
        }
        SAID.says("-6 also if it is WRONG.");
        no("behind(INTS, 41, 0)", x -> x.behind(INTS, 41, 0), -6);
        for (int what = 0; what <= 2; what++) {
            int of = what;
            SAID.refused(() -> told(100, 300, 0, 1), "behind of 4, " + what, x -> x.behind(S, 4, of), -6);
        }
        SAID.quiet(() -> behindZeros(39, 0), "behind of 40", x -> x.behind(S, 40, 2), 0);
    }

    private static void done() {
        SAID.promise(34);
        SAID.says("They come to pass in truth: MONTHS.");
        NoneMayLeave x = told(100, 300, 0, 404, 0);
        SAID.is("done of 0: one is gone", x.done(S, 0), 1);
        SAID.is("status(6): nothing came to pass", x.status(6), 431);
        SAID.is("done of 5: three are gone", x.done(S, 5), 3);
        SAID.is("status(7)", x.status(7), 3);
        SAID.is("status(6)", x.status(6), 406);
        SAID.is("status(5)", x.status(5), 15 + 10 - 1 - 5 - 1);
        int[] places = {3, 0, 0, 0, 0, 0, 3};
        for (int m = 0; m < 7; m++) {
            SAID.is("makerOf(" + m + ", 5)", x.makerOf(m, 5), places[m]);
        }
        SAID.is("done of 5 again: it's wrong", x.done(S, 5), -6);
        SAID.is("done of 40", behindZeros(39, 0).done(S, 40), 41);
        SAID.says("-1");
        no("done(8, -1)", y -> y.done(8, -1), -1);
        no("done(-1, 0)", y -> y.done(-1, 0), -1);
        SAID.says("-2");
        no("done(A_MAKER, -1)", y -> y.done(A_MAKER, -1), -2);
        SAID.says("-3");
        no("done(NOTHING, -1)", y -> y.done(NOTHING, -1), -3);
        SAID.says("-4");
        no("done(BYTES, -1)", y -> y.done(BYTES, -1), -4);
        SAID.says("-5");
        no("done(BYTES, 6)", y -> y.done(BYTES, 6), -5);
        no("done(BYTES, 41)", y -> y.done(BYTES, 41), -5);
        SAID.says("-6 likewise.");
        no("done(INTS, 41)", y -> y.done(INTS, 41), -6);
        SAID.refused(() -> told(0, 100, 200, 0), "done: wrong behind what could be", y -> y.done(S, 4), -6);
        SAID.refused(() -> told(0, 0, 0, 5), "done: wrong at the end", y -> y.done(S, 4), -6);
    }
}
