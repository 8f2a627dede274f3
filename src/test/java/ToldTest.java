/** Promises 28 to 34: letter, keys, tries, who, judge, behind, done. */
public final class ToldTest {
    private static final Due DUE = new Due("ToldTest");

    private ToldTest() {
    }

    public static void main(String[] args) {
        letter();
        letterRefused();
        keys();
        keysRefused();
        tries();
        triesRefused();
        who();
        whoRefused();
        judge();
        judgeWrongs();
        toldRefused();
        behind();
        done();
        DUE.end();
    }

    private static final int S = 2;
    private static final int A_MAKER = 6;
    private static final int NOTHING = 5;

    private static NoneMayLeave withShelves() {
        NoneMayLeave x = new NoneMayLeave();
        x.maker(0, 0, 10);
        x.show(A_MAKER, 0);
        return x;
    }

    private static void letter() {
        NoneMayLeave x = withShelves();
        Texts.numbers(x, S, 3, 0, 3, 7, (5L << 32) + 4, 9);
        DUE.is("letter: key 0", x.letter(S, 4, 0), 1 + 8);
        DUE.is("letter: key 1", x.letter(S, 4, 1), 2 + 1);
        DUE.is("letter: key 5", x.letter(S, 4, 5), 1 + 2);
        DUE.is("letter: key 7", x.letter(S, 4, 7), 4 + 8);
        DUE.is("letter: none of it", x.letter(S, 0, 3), 0);
        DUE.is("letter: the first", x.letter(S, 1, 3), 8);
        x.parts(8);
        DUE.is("letter: of eight parts", x.letter(S, 4, 0), 1 + 8 + 128 + 16);
        x.row(S, 0, 41);
        DUE.is("letter: 40 words", x.letter(S, 40, 2), 4);
        DUE.is("letter: 41 words", x.letter(S, 41, 2), -6);
    }

    private static void letterRefused() {
        NoneMayLeave x = withShelves();
        Texts.numbers(x, S, 0, 0, 8, -1);
        DUE.is("letter: no shelf", x.letter(8, -1, 9), -1);
        DUE.is("letter: no shelf", x.letter(-1, -1, 9), -1);
        DUE.is("letter: a maker", x.letter(A_MAKER, -1, 9), -2);
        DUE.is("letter: nothing", x.letter(NOTHING, -1, 9), -3);
        DUE.is("letter: n below 0", x.letter(S, -1, 9), -4);
        DUE.is("letter: fewer elements", x.letter(S, 4, 9), -5);
        DUE.is("letter: fewer elements", x.letter(S, 41, 9), -5);
        DUE.is("letter: key 8", x.letter(S, 1, 8), -6);
        DUE.is("letter: key -1", x.letter(S, 1, -1), -6);
        DUE.is("letter: word 8", x.letter(S, 2, 0), -6);
        Texts.numbers(x, S, 0, 0, -1);
        DUE.is("letter: word -1", x.letter(S, 2, 0), -6);
        DUE.is("letter: only the first", x.letter(S, 1, 0), 1);
        x.set(S, 0, 8);
        DUE.is("letter: the first may not be", x.letter(S, 1, 0), -6);
        for (int what = 11; what <= 14; what++) {
            DUE.is("status(" + what + ")", x.status(what), what == 11 ? 2 : 1);
        }
        DUE.is("status(15)", x.status(15), 2);
        DUE.is("status(16)", x.status(16), 5);
    }

    private static void keys() {
        NoneMayLeave x = withShelves();
        Texts.numbers(x, S, 1, 0, 3);
        DUE.is("keys: {0, 3} by 0 alone", x.keys(S, 2, 9), 1);
        DUE.is("keys: {0} by 5", x.keys(S, 2, 1), 1 << 5);
        DUE.is("keys: {1} by 1 and 6", x.keys(S, 2, 2), 1 << 1 | 1 << 6);
        DUE.is("keys: {} by 4", x.keys(S, 2, 0), 1 << 4);
        DUE.is("keys: {1, 2} by none", x.keys(S, 2, 6), 0);
        DUE.is("keys: of no word {}", x.keys(S, 0, 0), 255);
        DUE.is("keys: of no word {0}", x.keys(S, 0, 1), 0);
    }

    private static void keysRefused() {
        NoneMayLeave x = withShelves();
        Texts.numbers(x, S, 0, 0, 8);
        DUE.is("keys: no shelf", x.keys(8, -1, 99), -1);
        DUE.is("keys: a maker", x.keys(A_MAKER, -1, 99), -2);
        DUE.is("keys: nothing", x.keys(NOTHING, -1, 99), -3);
        DUE.is("keys: n below 0", x.keys(S, -1, 99), -4);
        DUE.is("keys: fewer elements", x.keys(S, 3, 99), -5);
        DUE.is("keys: others than there are", x.keys(S, 1, 16), -6);
        DUE.is("keys: others than there are", x.keys(S, 1, -1), -6);
        DUE.is("keys: a word that may not be", x.keys(S, 2, 1), -6);
        x.row(S, 0, 41);
        DUE.is("keys: 41 words", x.keys(S, 41, 1), -6);
        DUE.is("keys: 40 words", x.keys(S, 40, 1), 1);
        x.parts(5);
        DUE.is("keys: a fifth part", x.keys(S, 40, 16), 16);
    }

    private static void tries() {
        NoneMayLeave x = withShelves();
        Texts.numbers(x, S, 0, 10, 30, 30, 20, 99);
        // 30 * 1 + 30 * 2 + 20 * 3 + 10 * 4 = 190, by 90.
        DUE.is("tries: on the mean", x.tries(S, -1), 190000 / 90);
        int[] due = {1, 2, 3, 0};
        for (int i = 0; i < 4; i++) {
            DUE.is("tries: the part tried " + i, x.tries(S, i), due[i]);
        }
        x.parts(5);
        // 99 * 1 + 30 * 2 + 30 * 3 + 20 * 4 + 10 * 5 = 379, by 189.
        DUE.is("tries: on the mean, of five", x.tries(S, -1), 379000 / 189);
        DUE.is("tries: of five the first", x.tries(S, 0), 4);
        Texts.numbers(x, S, 3, 0, 0, 1L << 32, (1L << 32) + 99, 0);
        DUE.is("tries: the lowest 32 bits", x.tries(S, -1), 1000);
        DUE.is("tries: the lowest 32 bits", x.tries(S, 0), 3);
        DUE.is("tries: the last", x.tries(S, 4), 4);
    }

    private static void triesRefused() {
        NoneMayLeave x = withShelves();
        DUE.is("tries: no shelf", x.tries(8, 9), -1);
        DUE.is("tries: a maker", x.tries(A_MAKER, 9), -2);
        DUE.is("tries: nothing", x.tries(NOTHING, 9), -3);
        Texts.numbers(x, S, 1, 1, 2, 100);
        DUE.is("tries: fewer elements than parts", x.tries(S, 0), -5);
        Texts.numbers(x, S, 1, 1, 2, 3, 100, 100);
        DUE.is("tries: no such part ahead of weights", x.tries(S, 4), -5);
        DUE.is("tries: no such part ahead of weights", x.tries(S, -2), -5);
        DUE.is("tries: weight 100", x.tries(S, 3), -6);
        Texts.numbers(x, S, 1, 1, -1, 3, 4);
        DUE.is("tries: weight -1", x.tries(S, -1), -6);
        Texts.numbers(x, S, 1, 0, 0, 0, 0, 5);
        DUE.is("tries: all of them 0", x.tries(S, -1), -6);
        Texts.numbers(x, S, 1, 0, 0, 0, 1, 100);
        DUE.is("tries: what is behind doesn't count", x.tries(S, -1), 1000);
        DUE.is("status(15)", x.status(15), 3);
        DUE.is("status(16)", x.status(16), 3);
    }

    private static void who() {
        NoneMayLeave x = withShelves();
        for (int m = 1; m < 6; m++) {
            x.maker(0, 0, m);
        }
        Texts.numbers(x, 0, 1, 31, 15, 5, 32);
        Texts.numbers(x, 1, 3, 1, -7, 0, 0);
        DUE.is("who: one that made it", x.who(0, 1, 1), 31);
        DUE.is("who: two that made it", x.who(0, 1, 2), 15);
        DUE.is("who: and one that didn't", x.who(0, 1, 3), 10);
        DUE.is("who: and another", x.who(0, 1, 4), 10);
        Texts.numbers(x, 1, 3, 0, 0, 1L << 32, 0);
        DUE.is("who: none made it", x.who(0, 1, 3), 32);
        DUE.is("who: nobody is left", x.who(0, 1, 4), 0);
        x.bid(0, 10);
        x.deed(0, 1);
        DUE.is("who: by numbers, wherever they are", x.who(0, 0, 3), 5);
    }

    private static void whoRefused() {
        NoneMayLeave x = withShelves();
        Texts.numbers(x, 0, 1, 1, 2, -1);
        x.row(1, 0, 2);
        DUE.is("who: no shelf", x.who(8, A_MAKER, -1), -1);
        DUE.is("who: no next shelf", x.who(A_MAKER, -1, -1), -1);
        DUE.is("who: a maker", x.who(A_MAKER, NOTHING, -1), -2);
        DUE.is("who: the next a maker", x.who(NOTHING, A_MAKER, -1), -2);
        DUE.is("who: nothing", x.who(NOTHING, 1, -1), -3);
        DUE.is("who: the next nothing", x.who(0, NOTHING, -1), -3);
        DUE.is("who: n below 0", x.who(0, 1, -1), -4);
        DUE.is("who: fewer in the next", x.who(0, 1, 3), -5);
        DUE.is("who: fewer in the first", x.who(1, 0, 3), -5);
        DUE.is("who: none of them", x.who(0, 1, 0), -6);
        DUE.is("who: a set of others", x.who(0, 1, 2), -6);
        DUE.is("who: two sorts", x.who(0, 1, 1), 0);
        x.set(0, 1, -1);
        DUE.is("who: a set of others", x.who(0, 1, 2), -6);
        x.set(0, 0, 2);
        x.set(0, 1, 1);
        DUE.is("who: the first a set of others", x.who(0, 1, 2), -6);
        x.row(0, 1, 41);
        x.row(1, 1, 41);
        DUE.is("who: 41", x.who(0, 1, 41), -6);
        DUE.is("who: 40", x.who(0, 1, 40), 1);
        DUE.is("status(12)", x.status(12), 2);
        DUE.is("status(15)", x.status(15), 2);
        DUE.is("status(16)", x.status(16), 5);
    }

    /** Makers 0 of 10, 1 of 20, a double 2 of 30 (15); 0 and 1 know all together. */
    private static NoneMayLeave three() {
        NoneMayLeave x = new NoneMayLeave();
        DUE.is("the island of three", Texts.island(x, "maker 0 0 10;maker 0 0 20;maker 2 0 30;"
            + "knows 0 0;knows 0 1;knows 1 2;knows 1 3"), 7);
        return x;
    }

    private static void judge() {
        NoneMayLeave x = three();
        Texts.numbers(x, S, 1, 100, 102, 0, 201, 300, 401, 101, 0);
        for (int n = 0; n <= 8; n++) {
            DUE.is("judge(S, " + n + ")", x.judge(S, n), -1);
        }
        DUE.is("status(7): nothing came to pass", x.status(7), 0);
        DUE.is("status(2): nobody went", x.status(2), 3);
        x.set(S, 7, 102);
        DUE.is("judge: the double is home again", x.judge(S, 8), -1);
        x.set(S, 2, 202);
        DUE.is("judge: the double is abroad", x.judge(S, 8), 2);
        DUE.is("judge: as far as that", x.judge(S, 2), -1);
    }

    private static void wrongIs(NoneMayLeave x, int due, long... told) {
        Texts.numbers(x, S, 2, told);
        DUE.is("judge of numbers from " + told[0] + " to " + told[told.length - 1], x.judge(S, told.length), due);
    }

    private static void judgeWrongs() {
        NoneMayLeave x = three();
        wrongIs(x, 0, 1);
        wrongIs(x, 0, -1);
        wrongIs(x, 1, 0, -100);
        wrongIs(x, 0, 99);
        wrongIs(x, 0, 103);
        wrongIs(x, 0, 110);
        wrongIs(x, 1, 0, 203);
        wrongIs(x, 1, 0, 500);
        wrongIs(x, 0, Integer.MIN_VALUE);
        wrongIs(x, 0, Integer.MAX_VALUE);
        wrongIs(x, 0, 300);
        wrongIs(x, 0, 400);
        wrongIs(x, 1, 200, 200);
        wrongIs(x, 1, 200, 100);
        wrongIs(x, 1, 200, 300);
        wrongIs(x, 2, 100, 300, 300);
        wrongIs(x, 2, 100, 300, 100);
        wrongIs(x, 2, 200, 400, 400);
        wrongIs(x, -1, 200, 400, 200, 400);
        x.ask(1, 30);
        wrongIs(x, -1, 100, 101);
        wrongIs(x, 2, 100, 101, 102);
        x.ask(1, 29);
        wrongIs(x, 1, 100, 101);
        x.ask(1, 39);
        x.ask(0, 5);
        wrongIs(x, 1, 100, 101);
        wrongIs(x, -1, 100, 0, 101);
    }

    private static void toldRefused() {
        NoneMayLeave x = withShelves();
        x.row(S, 0, 2);
        x.row(3, 0, 41);
        DUE.is("judge: no shelf", x.judge(8, -1), -11);
        DUE.is("judge: a maker", x.judge(A_MAKER, -1), -12);
        DUE.is("judge: nothing", x.judge(NOTHING, -1), -13);
        DUE.is("judge: n below 0", x.judge(S, -1), -14);
        DUE.is("judge: fewer elements", x.judge(S, 41), -15);
        DUE.is("judge: 41", x.judge(3, 41), -16);
        DUE.is("judge: 40", x.judge(3, 40), -1);
        DUE.is("behind: no shelf", x.behind(8, -1, 9), -1);
        DUE.is("behind: a maker", x.behind(A_MAKER, -1, 9), -2);
        DUE.is("behind: nothing", x.behind(NOTHING, -1, 9), -3);
        DUE.is("behind: n below 0", x.behind(S, -1, 9), -4);
        DUE.is("behind: fewer elements", x.behind(S, 41, 0), -5);
        DUE.is("behind: another what", x.behind(S, 1, 3), -5);
        DUE.is("behind: another what", x.behind(S, 1, -1), -5);
        DUE.is("behind: another what ahead of 41", x.behind(3, 41, 3), -5);
        DUE.is("behind: 41", x.behind(3, 41, 0), -6);
        DUE.is("done: no shelf", x.done(8, -1), -1);
        DUE.is("done: a maker", x.done(A_MAKER, -1), -2);
        DUE.is("done: nothing", x.done(NOTHING, -1), -3);
        DUE.is("done: n below 0", x.done(S, -1), -4);
        DUE.is("done: fewer elements", x.done(S, 41), -5);
        DUE.is("done: 41", x.done(3, 41), -6);
        int[] due = {3, 3, 3, 3, 6, 3, 0};
        for (int i = 0; i < 7; i++) {
            DUE.is("status(" + (11 + i) + ")", x.status(11 + i), due[i]);
        }
        DUE.is("status(7): no month passed", x.status(7), 0);
    }

    private static void behind() {
        NoneMayLeave x = three();
        x.ask(0, 4);
        Texts.numbers(x, S, 1, 100, 101, 0, 202, 300, 402, 300);
        int[] made = {0, 0, 1, 1, 1, 0, 0};
        int[] purse = {100, 86, 62, 62, 62, 62, 62};
        int[] fear = {4, 4, 4, 3, 8, 18, 13};
        for (int n = 0; n <= 6; n++) {
            DUE.is("behind(S, " + n + ", 0)", x.behind(S, n, 0), made[n]);
            DUE.is("behind(S, " + n + ", 1)", x.behind(S, n, 1), purse[n]);
            DUE.is("behind(S, " + n + ", 2)", x.behind(S, n, 2), fear[n]);
        }
        DUE.is("behind: it is wrong", x.behind(S, 7, 0), -6);
        DUE.is("status(5): nothing came to pass", x.status(5), 4);
        DUE.is("status(6): nothing came to pass", x.status(6), 100);
        DUE.is("status(16)", x.status(16), 1);
    }

    private static void done() {
        NoneMayLeave x = three();
        Texts.numbers(x, S, 1, 100, 102, 0, 202, 0, 300, 300);
        DUE.is("done: it is wrong", x.done(S, 7), -6);
        DUE.is("status(2): nothing came to pass", x.status(2), 3);
        DUE.is("status(7): nothing came to pass", x.status(7), 0);
        DUE.is("done", x.done(S, 6), 2);
        DUE.is("makerOf(0, 5)", x.makerOf(0, 5), 3);
        DUE.is("makerOf(2, 5)", x.makerOf(2, 5), 2);
        DUE.is("makerOf(2, 3): what he heard abroad", x.makerOf(2, 3), 3);
        DUE.is("status(5)", x.status(5), 14);
        DUE.is("status(6)", x.status(6), 75);
        DUE.is("status(7)", x.status(7), 2);
        DUE.is("done: nothing told", x.done(S, 0), 2);
        Texts.numbers(x, S, 1, 0, 0, 0);
        DUE.is("done: three months more", x.done(S, 3), 5);
        DUE.is("done: it is wrong then", x.done(S, 2) == 7 ? x.judge(S, 3) : -99, -1);
    }
}
