import java.util.Arrays;

/** The document's terms, 3. WHAT COMES OF IT, sentence by sentence, from the letters to what is drawn. */
public final class TermsToldTest {
    private static final Said SAID = new Said("TermsToldTest");
    private static final int S = 2;

    private TermsToldTest() {
    }

    public static void main(String[] args) {
        SAID.between("what that is; the i-th move.", "SHELVES 0 to 7 hold");
        letter();
        keys();
        tries();
        triesOnTheMean();
        who();
        months();
        wrong();
        behind();
        truth();
        years();
        yearsBid();
        yearsWriteAndKill();
        yearsMonths();
        draws();
        SAID.end();
    }

    private static NoneMayLeave with(int parts, long... numbers) {
        NoneMayLeave x = new NoneMayLeave();
        x.parts(parts);
        Texts.numbers(x, S, 2, numbers);
        return x;
    }

    private static void letter() {
        SAID.says("A LETTER: a ROW of words (0 to 7)");
        SAID.is("letter of 0", with(8, 0).letter(S, 1, 0), 1);
        SAID.is("letter of 7", with(8, 7).letter(S, 1, 0), 128);
        SAID.refused(() -> with(8, 8), "letter of 8", x -> x.letter(S, 1, 0), -6);
        SAID.refused(() -> with(8, -1), "letter of -1", x -> x.letter(S, 1, 0), -6);
        SAID.refused(() -> with(8, 0, 1, 8), "letter: the last word 8", x -> x.letter(S, 3, 0), -6);
        SAID.is("letter: the word behind the last one", with(8, 0, 1, 8).letter(S, 2, 0), 3);
        SAID.says("with a KEY (0 to 7) it tells of each word (word and KEY, modulo 8) a PART, if there is one: "
            + "PARTS told (bits).");
        NoneMayLeave x = with(8, 0, 5, 5);
        for (int key = 0; key < 8; key++) {
            SAID.is("letter by key " + key, x.letter(S, 3, key), 1 << key | 1 << (key + 5) % 8);
        }
        NoneMayLeave y = with(5, 0, 5);
        int[] due = {1, 2, 4, 8 | 1, 16 | 2, 4, 8, 16};
        for (int key = 0; key < 8; key++) {
            SAID.is("letter by key " + key + " of 5 parts", y.letter(S, 2, key), due[key]);
        }
        SAID.refused(() -> with(8, 0), "letter by key 8", z -> z.letter(S, 1, 8), -6);
        SAID.refused(() -> with(8, 0), "letter by key -1", z -> z.letter(S, 1, -1), -6);
    }

    private static void keys() {
        SAID.says("KEYS (bits) by which it tells just told PARTS.");
        NoneMayLeave x = with(5, 0, 5);
        SAID.is("keys of {0}", x.keys(S, 2, 1), 1);
        SAID.is("keys of {2}", x.keys(S, 2, 4), 1 << 2 | 1 << 5);
        SAID.is("keys of {3}", x.keys(S, 2, 8), 1 << 6);
        SAID.is("keys of {0, 3}: not more nor fewer of them", x.keys(S, 2, 9), 1 << 3);
        SAID.is("keys of {4}", x.keys(S, 2, 16), 1 << 7);
        SAID.is("keys of {0, 1}: none", x.keys(S, 2, 3), 0);
        SAID.is("keys of {}: none", x.keys(S, 2, 0), 0);
        SAID.is("keys of {} by no words: all", x.keys(S, 0, 0), 255);
    }

    private static void tries() {
        SAID.says("TRIES for a recipe that lacks one PART, WEIGHTS (0 to 99) of PARTS in a ROW");
        SAID.is("tries: weights 0 and 99", with(4, 0, 99, 0, 0).tries(S, 0), 1);
        SAID.refused(() -> with(4, 0, 100, 0, 0), "tries: weight 100", x -> x.tries(S, 0), -6);
        SAID.refused(() -> with(4, 0, 1, 0, -1), "tries: weight -1", x -> x.tries(S, 0), -6);
        SAID.is("tries: a weight of no part", with(4, 0, 1, 0, 0, 100).tries(S, 0), 1);
        SAID.says("in the best order (greatest WEIGHT first, of several the first PART) on the mean:");
        NoneMayLeave x = with(6, 10, 30, 30, 20, 10, 31);
        int[] due = {5, 1, 2, 3, 0, 4};
        for (int i = 0; i < 6; i++) {
            SAID.is("tries: the part tried " + i, x.tries(S, i), due[i]);
        }
        SAID.is("tries: the mean", x.tries(S, -1), (31 + 60 + 90 + 80 + 50 + 60) * 1000 / 131);
    }

    private static void triesOnTheMean() {
        SAID.says("sum of each WEIGHT times its place (1 on), times 1000 by all WEIGHTS (cut)");
        SAID.is("tries: one weight alone", with(4, 0, 0, 7, 0).tries(S, -1), 1000);
        SAID.is("tries: two as great", with(4, 5, 0, 5, 0).tries(S, -1), 1500);
        SAID.is("tries: four as great", with(4, 1, 1, 1, 1).tries(S, -1), 2500);
        SAID.is("tries: 4 / 3, cut", with(4, 1, 2, 0, 0).tries(S, -1), 1333);
        SAID.is("tries: 5 / 3, cut", with(4, 1, 1, 1, 0).tries(S, -1), 2000);
        SAID.is("tries: 11 / 6, cut", with(4, 2, 3, 1, 0).tries(S, -1), 10000 / 6);
        SAID.is("tries: the greatest", with(8, 99, 99, 99, 99, 99, 99, 99, 99).tries(S, -1), 4500);
        SAID.says("the i-th PART tried.");
        NoneMayLeave x = with(4, 1, 2, 3, 4);
        for (int i = 0; i < 4; i++) {
            SAID.is("tries: the part tried " + i, x.tries(S, i), 3 - i);
        }
    }

    private static NoneMayLeave sets(long[] those, long[] made) {
        NoneMayLeave x = new NoneMayLeave();
        for (int m = 0; m < 5; m++) {
            x.maker(0, 0, 0);
        }
        Texts.numbers(x, 0, 2, those);
        Texts.numbers(x, 1, 3, made);
        return x;
    }

    private static void who() {
        SAID.says("WHO: told SETS (a ROW of bits of MAKERS) and whether each MADE it "
            + "(the next ROW's elements, 0: no): PARTS' owners:");
        SAID.is("who: 1", sets(new long[] {7}, new long[] {1}).who(0, 1, 1), 7);
        SAID.is("who: -1", sets(new long[] {7}, new long[] {-1}).who(0, 1, 1), 7);
        SAID.is("who: 2", sets(new long[] {7}, new long[] {2}).who(0, 1, 1), 7);
        SAID.is("who: 0", sets(new long[] {7}, new long[] {0}).who(0, 1, 1), 8 | 16);
        SAID.refused(() -> sets(new long[] {32}, new long[] {1}), "who: nobody's bit", x -> x.who(0, 1, 1), -6);
        SAID.says("PEOPLE (bits) who may have KNOWN the one PART all else had: "
            + "those in each SET that MADE it and in none that didn't.");
        NoneMayLeave x = sets(new long[] {31, 1 | 2 | 4, 4 | 8, 2 | 4}, new long[] {1, 1, 0, 1});
        int[] due = {31, 7, 3, 2};
        for (int n = 1; n <= 4; n++) {
            SAID.is("who: of " + n, x.who(0, 1, n), due[n - 1]);
        }
        NoneMayLeave y = sets(new long[] {0, 1, 16, 31}, new long[] {0, 0, 0, 0});
        int[] none = {31, 30, 14, 0};
        for (int n = 1; n <= 4; n++) {
            SAID.is("who: none of " + n + " made it", y.who(0, 1, n), none[n - 1]);
        }
        SAID.is("who: nobody made it", sets(new long[] {0}, new long[] {1}).who(0, 1, 1), 0);
        NoneMayLeave dead = sets(new long[] {3}, new long[] {1});
        Texts.island(dead, "dies 0;goes 1");
        SAID.is("who: wherever they are", dead.who(0, 1, 1), 3);
    }

    // ---- told months

    /** Makers 0 of 10, 1 of 20, a double 2 of 30 (15), who is alone with part 2; a purse of 100. */
    private static NoneMayLeave told(long... numbers) {
        NoneMayLeave x = Made.by("maker 0 0 10;maker 0 0 20;maker 2 0 30;knows 0 0;knows 0 1;knows 1 3;knows 2 2");
        Texts.numbers(x, S, 1, numbers);
        return x;
    }

    private static void wrongAt(int due, long... numbers) {
        int n = numbers.length;
        SAID.is("judge of " + Arrays.toString(numbers), told(numbers).judge(S, n), due);
    }

    private static void months() {
        SAID.says("Told MONTHS: a ROW of numbers: 0 a MONTH passes, 100 and M bid his PRICE, 200 and M SHUT, "
            + "300 and M KILL, 400 and M FREE:");
        NoneMayLeave x = told(101, 200, 301, 0, 400);
        int[] purse = {100, 80, 80, 80, 80, 80};
        int[] fear = {0, 0, 5, 15, 14, 9};
        for (int n = 0; n <= 5; n++) {
            SAID.is("behind " + n + ": PURSE", x.behind(S, n, 1), purse[n]);
            SAID.is("behind " + n + ": FEAR", x.behind(S, n, 2), fear[n]);
        }
        SAID.is("done", x.done(S, 3), 0);
        int[] places = {2, 3, 0};
        for (int m = 0; m < 3; m++) {
            SAID.is("makerOf(" + m + ", 5)", x.makerOf(m, 5), places[m]);
        }
    }

    private static void wrong() {
        SAID.says("WRONG: the first that can't be; NONE.");
        wrongAt(-1);
        wrongAt(-1, 0, 0, 0);
        wrongAt(-1, 100, 300);
        wrongAt(-1, 200, 400, 200, 400, 100);
        wrongAt(0, 1);
        wrongAt(0, 99);
        wrongAt(0, -1);
        wrongAt(1, 0, -100);
        wrongAt(0, 103);
        wrongAt(0, 203);
        wrongAt(0, 500);
        wrongAt(0, 300);
        wrongAt(0, 400);
        wrongAt(1, 100, 100);
        wrongAt(1, 100, 200);
        wrongAt(1, 100, 400);
        wrongAt(1, 200, 100);
        wrongAt(1, 200, 200);
        wrongAt(1, 200, 300);
        wrongAt(2, 100, 300, 300);
        wrongAt(2, 102, 0, 302);
        wrongAt(1, 0, 7, 8, 0);
        SAID.is("judge: PURSE has just that", bought(30), -1);
        SAID.is("judge: PURSE has 1 less", bought(29), 1);
    }

    private static long bought(int purse) {
        NoneMayLeave x = told(100, 101);
        x.ask(1, purse);
        return x.judge(S, 2);
    }

    private static void behind() {
        SAID.says("BEHIND them: MADE ABROAD, PURSE, FEAR.");
        NoneMayLeave x = told(100, 101, 102, 0);
        x.ask(0, 3);
        int[] made = {0, 0, 0, 1, 0};
        int[] purse = {100, 87, 64, 46, 46};
        int[] fear = {3, 3, 3, 3, 2};
        for (int n = 0; n <= 4; n++) {
            int many = n;
            SAID.is("behind " + n + ": MADE", x.behind(S, many, 0), made[n]);
            SAID.is("behind " + n + ": PURSE", x.behind(S, many, 1), purse[n]);
            SAID.is("behind " + n + ": FEAR", x.behind(S, many, 2), fear[n]);
        }
        SAID.quiet(() -> told(100, 300, 0, 202), "behind: nothing is changed", y -> y.behind(S, 4, 2), 14);
        SAID.quiet(() -> told(100, 300, 0, 202), "judge: nothing is changed", y -> y.judge(S, 4), -1);
    }

    private static void truth() {
        SAID.says("IN TRUTH: BIDS, deeds, MONTHS.");
        NoneMayLeave x = told();
        x.bid(0, 10);
        x.deed(0, 1);
        x.month();
        NoneMayLeave y = told();
        Texts.numbers(y, S, 1, 100, 300, 0);
        SAID.is("done", y.done(S, 3), 1);
        for (int what = 0; what <= 8; what++) {
            SAID.is("status(" + what + ")", x.status(what), y.status(what));
        }
        SAID.is("status(4)", x.status(4), 1);
        SAID.is("status(6)", x.status(6), 90);
        SAID.is("status(7)", x.status(7), 1);
    }

    // ---- years

    /** Makers 0 of 10, who knows all, 1 of 40, a double 2 of 20 (10), who knows nothing. */
    private static NoneMayLeave three() {
        return Made.by("maker 0 0 10;maker 0 0 40;maker 2 0 20;knows 0 0;knows 0 1;knows 0 2;knows 0 3;knows 1 1");
    }

    private static NoneMayLeave oneYear(NoneMayLeave x, int[] ns, int[] drawn) {
        int seed = Drawn.seedFor(ns, drawn);
        x.seed(seed);
        x.years(1);
        SAID.is("status(8): so many draws", x.status(8), Drawn.behind(seed, ns.length));
        return x;
    }

    private static void placesAre(NoneMayLeave x, int... places) {
        for (int m = 0; m < places.length; m++) {
            SAID.is("makerOf(" + m + ", 5)", x.makerOf(m, 5), places[m]);
        }
    }

    private static void years() {
        SAID.says("YEARS by draws, n MONTHS: each: a DRAW below 4:");
        for (int n = 1; n <= 5; n++) {
            NoneMayLeave x = three();
            int seed = Drawn.seedFor(new int[] {4, 4, 4, 4, 4}, new int[] {3, 3, 3, 3, 3});
            x.seed(seed);
            x.years(n);
            SAID.is("status(7): n months", x.status(7), n);
            SAID.is("status(8): one draw each", x.status(8), Drawn.behind(seed, n));
        }
    }

    private static void yearsBid() {
        SAID.says("0 a BID of the PRICE to a MAKER (a DRAW below how many there are) if it can be");
        NoneMayLeave x = oneYear(three(), new int[] {4, 3}, new int[] {0, 1});
        placesAre(x, 0, 1, 0);
        SAID.is("status(6)", x.status(6), 60);
        NoneMayLeave poor = three();
        poor.ask(1, 39);
        oneYear(poor, new int[] {4, 3}, new int[] {0, 1});
        placesAre(poor, 0, 0, 0);
        SAID.is("status(6): PURSE hasn't his PRICE", poor.status(6), 39);
        NoneMayLeave just = three();
        just.ask(1, 40);
        oneYear(just, new int[] {4, 3}, new int[] {0, 1});
        SAID.is("status(6): PURSE has just that", just.status(6), 0);
        NoneMayLeave gone = three();
        gone.deed(1, 0);
        oneYear(gone, new int[] {4, 3}, new int[] {0, 1});
        placesAre(gone, 0, 2, 0);
        SAID.is("status(6): he isn't at home", gone.status(6), 100);
        NoneMayLeave one = Made.by("maker 0 0 10");
        oneYear(one, new int[] {4, 1}, new int[] {0, 0});
        placesAre(one, 1);
        NoneMayLeave eight = Made.plain(4, new int[8], new int[0]);
        oneYear(eight, new int[] {4, 8}, new int[] {0, 7});
        placesAre(eight, 0, 0, 0, 0, 0, 0, 0, 1);
        NoneMayLeave dear = oneYear(fearful(), new int[] {4, 3}, new int[] {0, 0});
        SAID.is("status(6): the PRICE ahead of the MONTH", dear.status(6), 100 - 15);
    }

    private static NoneMayLeave fearful() {
        NoneMayLeave x = three();
        x.ask(0, 5);
        return x;
    }

    private static void yearsWriteAndKill() {
        SAID.says("1 WRITE");
        NoneMayLeave x = three();
        x.kin(0, 1, true);
        x.bid(0, 10);
        x.ask(0, 50);
        oneYear(x, new int[] {4, 100}, new int[] {1, 49});
        placesAre(x, 0, 0, 0);
        NoneMayLeave y = three();
        y.kin(0, 1, true);
        y.bid(0, 10);
        y.ask(0, 50);
        oneYear(y, new int[] {4, 100}, new int[] {1, 50});
        placesAre(y, 1, 0, 0);
        NoneMayLeave nobody = oneYear(three(), new int[] {4}, new int[] {1});
        placesAre(nobody, 0, 0, 0);
        SAID.says("2 KILL a MAKER (likewise) if it can be");
        NoneMayLeave killed = three();
        killed.bid(1, 40);
        oneYear(killed, new int[] {4, 3}, new int[] {2, 1});
        placesAre(killed, 0, 3, 0);
        SAID.is("status(5): 10 more, then 1 less", killed.status(5), 9);
        NoneMayLeave home = oneYear(three(), new int[] {4, 3}, new int[] {2, 2});
        placesAre(home, 0, 0, 0);
        SAID.is("status(5)", home.status(5), 0);
        SAID.says("else nothing");
        NoneMayLeave nothing = three();
        nothing.bid(1, 40);
        nothing.ask(0, 99);
        oneYear(nothing, new int[] {4}, new int[] {3});
        placesAre(nothing, 0, 1, 0);
        SAID.is("status(6)", nothing.status(6), 60);
    }

    private static void yearsMonths() {
        SAID.says("then a MONTH.");
        NoneMayLeave x = three();
        x.ask(0, 9);
        x.bid(1, 50);
        oneYear(x, new int[] {4, 3}, new int[] {0, 2});
        placesAre(x, 0, 1, 0);
        SAID.is("status(6): the double had his PRICE", x.status(6), 50 - 19);
        SAID.is("makerOf(2, 3): and heard", x.makerOf(2, 3), 2);
        SAID.is("status(5)", x.status(5), 8);
        SAID.is("status(7)", x.status(7), 1);
        SAID.says("In how many of them, at their end, it is MADE ABROAD.");
        int[] threes = {3, 3, 3, 3};
        int[] fours = {4, 4, 4, 4};
        int seed = Drawn.seedFor(fours, threes);
        NoneMayLeave made = three();
        made.bid(0, 10);
        made.seed(seed);
        SAID.is("years(4): all four", made.years(4), 4);
        NoneMayLeave never = three();
        never.seed(seed);
        SAID.is("years(4): none of them", never.years(4), 0);
        NoneMayLeave later = three();
        later.seed(Drawn.seedFor(new int[] {4, 4, 3, 4}, new int[] {3, 0, 0, 3}));
        SAID.is("years(3): two of them", later.years(3), 2);
        NoneMayLeave lost = three();
        lost.bid(0, 10);
        lost.seed(Drawn.seedFor(new int[] {4, 4, 3, 4}, new int[] {3, 2, 0, 3}));
        SAID.is("years(3): the first of them", lost.years(3), 1);
        NoneMayLeave heard = Made.by("maker 2 0 20;knows 0 0;knows 0 1;knows 0 2;knows 0 3");
        heard.bid(0, 10);
        heard.seed(seed);
        SAID.is("years(1): the double is home at its end", heard.years(1), 0);
    }

    // ---- draws

    private static int drawnBy(int seed, int fear) {
        NoneMayLeave x = Made.by("maker 5 0 0;goes 0");
        x.ask(0, fear);
        x.seed(seed);
        return x.write();
    }

    private static void draws() {
        SAID.says("A DRAW below n: SEED (1 at first) becomes SEED times 1103515245, and 12345 (an int, wrapping)");
        NoneMayLeave x = Made.by("maker 5 0 0;goes 0");
        SAID.is("status(8)", x.status(8), 1);
        x.write();
        SAID.is("status(8): by 1", x.status(8), 1103527590);
        x.write();
        SAID.is("status(8): wraps", x.status(8), (int) (1103527590L * 1103515245L + 12345L));
        int[] seeds = {0, -1, 2, Integer.MAX_VALUE, Integer.MIN_VALUE};
        int[] due = {12345, -1103502900, -2087924461, (int) (Integer.MAX_VALUE * 1103515245L + 12345L),
            (int) (Integer.MIN_VALUE * 1103515245L + 12345L)};
        for (int i = 0; i < seeds.length; i++) {
            x.seed(seeds[i]);
            x.write();
            SAID.is("status(8): by " + seeds[i], x.status(8), due[i]);
        }
        SAID.says("its upper 16 bits, no sign, modulo n.");
        // 1 draws 16838: 38 below 100. 2 draws 33676, with a sign less than 0: 76 below 100.
        SAID.is("write() by 1, FEAR 38", drawnBy(1, 38), 0);
        SAID.is("write() by 1, FEAR 39", drawnBy(1, 39), 1);
        SAID.is("write() by 2, FEAR 0", drawnBy(2, 0), 0);
        SAID.is("write() by 2, FEAR 76", drawnBy(2, 76), 0);
        SAID.is("write() by 2, FEAR 77", drawnBy(2, 77), 1);
        // 0 draws 0, whatever n.
        SAID.is("write() by 0, FEAR 0", drawnBy(0, 0), 0);
        SAID.is("write() by 0, FEAR 1", drawnBy(0, 1), 1);
    }
}
