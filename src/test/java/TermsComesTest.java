/** The document's terms, 3. WHAT COMES OF IT, sentence by sentence, up to the council. */
public final class TermsComesTest {
    private static final Said SAID = new Said("TermsComesTest");

    private TermsComesTest() {
    }

    public static void main(String[] args) {
        SAID.between("==== 3. WHAT COMES OF IT", "A LETTER: a ROW of words");
        nothingIsChanged();
        abroad();
        fewest();
        cheapest();
        cheapestTies();
        alone();
        key();
        without();
        sold();
        stand();
        lessons();
        lessonsNone();
        offer();
        spend();
        spendTies();
        council();
        councilNone();
        councilFirst();
        councilNumbers();
        SAID.end();
    }

    private static void nothingIsChanged() {
        SAID.says("(nothing is changed)");
        for (int what = 0; what < 2; what++) {
            int of = what;
            SAID.quiet(Made::rich, "abroad", x -> x.abroad(of), of == 0 ? 0 : 13);
            SAID.quiet(Made::rich, "alone", x -> x.alone(of), of == 0 ? 4 | 8 : 2);
        }
        SAID.quiet(Made::rich, "fewest", x -> x.fewest(), 1 | 4 | 8);
        SAID.quiet(Made::rich, "cheapest", x -> x.cheapest(0), 1 | 4 | 8);
        SAID.quiet(Made::rich, "without", x -> x.without(0), 1);
        SAID.quiet(Made::rich, "sold", x -> x.sold(4), 1);
        SAID.quiet(Made::rich, "stands", x -> x.stands(), 0);
        SAID.quiet(Made::rich, "lessons", x -> x.lessons(1), 4);
        SAID.quiet(Made::rich, "offer", x -> x.offer(40), 1 | 4);
        SAID.quiet(Made::rich, "spend", x -> x.spend(), 1 | 4 | 8);
        SAID.quiet(Made::rich, "council", x -> x.council(2, -1), 10000);
        SAID.quiet(Made::rich, "council", x -> x.council(1, 0), 10);
    }

    private static void abroad() {
        SAID.says("ABROAD: whether it is MADE there now");
        NoneMayLeave x = Made.plain(4, new int[] {0, 0, 0}, new int[] {15, 15, 15});
        SAID.is("abroad(0): all at home", x.abroad(0), 0);
        x.deed(0, 0);
        SAID.is("abroad(0): one shut up", x.abroad(0), 0);
        x.ask(0, 0);
        x.bid(1, 0);
        SAID.is("abroad(0): one abroad", x.abroad(0), 1);
        x.deed(1, 1);
        SAID.is("abroad(0): one dead", x.abroad(0), 0);
        SAID.says("which PARTS lack (bits).");
        NoneMayLeave y = Made.plain(8, new int[] {0, 0}, new int[] {1 | 16, 2 | 16 | 128});
        SAID.is("abroad(1): all", y.abroad(1), 255);
        y.bid(0, 0);
        SAID.is("abroad(1)", y.abroad(1), 255 - 17);
        y.bid(1, 0);
        SAID.is("abroad(1)", y.abroad(1), 4 | 8 | 32 | 64);
        SAID.is("abroad(1): none", onceGone().abroad(1), 0);
    }

    private static NoneMayLeave onceGone() {
        NoneMayLeave x = Made.plain(4, new int[] {0, 0}, new int[] {15, 15});
        x.bid(0, 0);
        return x;
    }

    private static void fewest() {
        SAID.says("FEWEST: of MAKERS at HOME the fewest who, with those ABROAD, MAKE it");
        NoneMayLeave x = Made.plain(4, new int[] {1, 1, 1, 99}, new int[] {1 | 2, 4, 8, 15});
        SAID.is("fewest(): one, though dear", x.fewest(), 8);
        x.deed(3, 0);
        SAID.is("fewest(): not one shut up", x.fewest(), 7);
        x.ask(0, 0);
        x.bid(0, 1);
        SAID.is("fewest(): with one abroad", x.fewest(), 6);
        x.bid(1, 1);
        x.bid(2, 1);
        SAID.is("fewest(): nobody need go", x.fewest(), 0);
        x.deed(2, 1);
        SAID.is("fewest(): one who knows it is dead, one shut up", x.fewest(), -1);
        NoneMayLeave all = Made.plain(8, new int[8], new int[] {1, 2, 4, 8, 16, 32, 64, 128});
        SAID.is("fewest(): all eight", all.fewest(), 255);
        SAID.says("of several the least as bits; NONE.");
        NoneMayLeave y = Made.plain(4, new int[5], new int[] {3, 7, 12, 12, 8});
        SAID.is("fewest(): 0 and 2, not 1 and 2, 0 and 3 or 1 and 4", y.fewest(), 5);
        NoneMayLeave z = Made.plain(4, new int[3], new int[] {1, 15, 15});
        SAID.is("fewest(): 1, not 2", z.fewest(), 2);
        SAID.is("fewest(): a part nobody knows", Made.plain(4, new int[2], new int[] {7, 7}).fewest(), -1);
        SAID.is("fewest(): no makers", new NoneMayLeave().fewest(), -1);
    }

    private static void cheapest() {
        SAID.says("CHEAPEST: likewise by PRICES together (as they are now)");
        NoneMayLeave x = Made.plain(4, new int[] {10, 20, 45}, new int[] {3, 12, 15});
        SAID.is("cheapest(0): two are cheaper than one", x.cheapest(0), 3);
        SAID.is("cheapest(1)", x.cheapest(1), 30);
        x.ask(0, 16);
        SAID.is("cheapest(0): by FEAR one is cheaper", x.cheapest(0), 4);
        SAID.is("cheapest(1)", x.cheapest(1), 61);
        x.ask(0, 0);
        x.bid(0, 10);
        SAID.is("cheapest(0): with one abroad", x.cheapest(0), 2);
        SAID.is("cheapest(1): who is abroad costs nothing", x.cheapest(1), 20);
        NoneMayLeave kin = Made.plain(4, new int[0], new int[0]);
        kin.maker(1, 0, 10);
        kin.maker(1, 0, 10);
        kin.kin(0, 1, true);
        Made.know(kin, 0, 3);
        Made.know(kin, 1, 12);
        SAID.is("cheapest(1): each by kin who are at home now", kin.cheapest(1), 30);
    }

    private static void cheapestTies() {
        SAID.says("of several the least as bits; how much; whether PURSE has that.");
        NoneMayLeave x = Made.plain(4, new int[] {10, 20, 30, 30}, new int[] {3, 12, 15, 15});
        SAID.is("cheapest(0): 0 and 1, not 2 or 3", x.cheapest(0), 3);
        x.deed(1, 0);
        x.ask(0, 0);
        SAID.is("cheapest(0): 2, not 3", x.cheapest(0), 4);
        SAID.is("cheapest(1)", x.cheapest(1), 30);
        NoneMayLeave free = Made.plain(4, new int[] {0, 0, 0}, new int[] {1, 15, 2});
        SAID.is("cheapest(0): 1, though 0, 1 and 2 cost as much", free.cheapest(0), 2);
        x.ask(1, 30);
        SAID.is("cheapest(2): just that", x.cheapest(2), 1);
        x.ask(1, 29);
        SAID.is("cheapest(2): 1 less", x.cheapest(2), 0);
        SAID.is("cheapest(0): whatever PURSE has", x.cheapest(0), 4);
        x.ask(1, 30);
        x.bid(2, 30);
        SAID.is("cheapest(0): nobody need go", x.cheapest(0), 0);
        SAID.is("cheapest(1): nobody need go", x.cheapest(1), 0);
        SAID.is("cheapest(2): nobody need go, PURSE is empty", x.cheapest(2), 1);
        NoneMayLeave none = Made.plain(4, new int[2], new int[] {7, 7});
        SAID.is("cheapest(0): none", none.cheapest(0), -1);
        SAID.is("cheapest(1): none", none.cheapest(1), -1);
        SAID.is("cheapest(2): none", none.cheapest(2), 0);
    }

    private static void alone() {
        SAID.says("ALONE: PARTS (bits) that just one of all who aren't DEAD KNOWS");
        NoneMayLeave x = Made.plain(6, new int[5], new int[] {1, 2, 4 | 16, 8 | 16, 16});
        SAID.is("alone(0): not one that three know, nor one that nobody knows", x.alone(0), 15);
        x.deed(0, 0);
        x.ask(0, 0);
        x.bid(1, 0);
        x.bid(4, 0);
        SAID.is("alone(0): shut up and abroad count", x.alone(0), 15);
        x.deed(4, 1);
        SAID.is("alone(0): two still know it", x.alone(0), 15);
        x.ask(0, 0);
        x.bid(3, 0);
        x.deed(3, 1);
        SAID.is("alone(0): one still knows it, another nobody", x.alone(0), 1 | 2 | 4 | 16);
        SAID.is("alone(0): eight", Made.plain(8, new int[1], new int[] {255}).alone(0), 255);
    }

    private static void key() {
        SAID.says("KEY: the MAKER who KNOWS most of these, of several the first");
        NoneMayLeave x = Made.plain(8, new int[4], new int[] {1 | 2 | 4, 1 | 2 | 4 | 8, 16 | 32, 64});
        SAID.is("alone(0)", x.alone(0), 8 | 16 | 32 | 64);
        SAID.is("alone(1): two of these", x.alone(1), 2);
        x.knows(3, 7, true);
        SAID.is("alone(1): 2, not 3, who knows as many", x.alone(1), 2);
        x.knows(3, 3, true);
        SAID.is("alone(1): not 3, who knows more, but not of these", x.alone(1), 2);
        x.knows(0, 3, true);
        x.knows(2, 7, true);
        SAID.is("alone(1)", x.alone(1), 2);
        NoneMayLeave first = Made.plain(4, new int[2], new int[] {1, 2});
        SAID.is("alone(1): the first", first.alone(1), 0);
        NoneMayLeave dead = Made.plain(4, new int[2], new int[] {15, 3});
        dead.bid(0, 0);
        dead.deed(0, 1);
        SAID.is("alone(1): not one who is DEAD", dead.alone(1), 1);
        SAID.says("NONE: there are none.");
        NoneMayLeave none = Made.plain(4, new int[2], new int[] {7, 7});
        SAID.is("alone(0)", none.alone(0), 0);
        SAID.is("alone(1)", none.alone(1), -1);
        SAID.is("alone(1): no makers", new NoneMayLeave().alone(1), -1);
    }

    private static void without() {
        SAID.says("WITHOUT k (0 to 8): whether those at HOME, whichever k of them are away, MAKE it still");
        NoneMayLeave x = Made.plain(4, new int[3], new int[] {15, 7, 8});
        SAID.is("without(0)", x.without(0), 1);
        SAID.is("without(1)", x.without(1), 1);
        SAID.is("without(2)", x.without(2), 0);
        x.bid(2, 0);
        SAID.is("without(0): one is abroad", x.without(0), 1);
        SAID.is("without(1): one is abroad", x.without(1), 0);
        x.deed(0, 0);
        SAID.is("without(0): one is shut up", x.without(0), 0);
        SAID.refused(Made::rich, "without(-1)", y -> y.without(-1), -6);
        SAID.refused(Made::rich, "without(9)", y -> y.without(9), -6);
        SAID.says("(1, 0; fewer than k: 0).");
        NoneMayLeave all = Made.plain(4, new int[8], new int[] {15, 15, 15, 15, 15, 15, 15, 15});
        SAID.is("without(7) of eight who know all", all.without(7), 1);
        SAID.is("without(8) of eight who know all", all.without(8), 0);
        SAID.is("without(8) of three", Made.plain(4, new int[3], new int[] {15, 15, 15}).without(8), 0);
        SAID.is("without(4) of three", Made.plain(4, new int[3], new int[] {15, 15, 15}).without(4), 0);
        SAID.is("without(0) of none", new NoneMayLeave().without(0), 0);
        SAID.is("without(1) of none", new NoneMayLeave().without(1), 0);
    }

    private static void sold() {
        SAID.says("SOLD by k: whether any k (1 to 8) who aren't DEAD (or fewer) MAKE it (1, 0).");
        NoneMayLeave x = Made.plain(4, new int[4], new int[] {3, 4, 8, 7});
        SAID.is("sold(1)", x.sold(1), 0);
        SAID.is("sold(2)", x.sold(2), 1);
        SAID.is("sold(3): fewer do too", x.sold(3), 1);
        SAID.is("sold(8): fewer do too", x.sold(8), 1);
        x.deed(2, 0);
        x.ask(0, 0);
        x.bid(3, 0);
        SAID.is("sold(2): one shut up and one abroad", x.sold(2), 1);
        x.deed(3, 1);
        SAID.is("sold(2): one dead", x.sold(2), 0);
        SAID.is("sold(3)", x.sold(3), 1);
        SAID.is("sold(1): one who knows all", Made.plain(4, new int[1], new int[] {15}).sold(1), 1);
        NoneMayLeave all = Made.plain(8, new int[8], new int[] {1, 2, 4, 8, 16, 32, 64, 128});
        SAID.is("sold(7) of eight", all.sold(7), 0);
        SAID.is("sold(8) of eight", all.sold(8), 1);
        SAID.is("sold(8): a part nobody knows", Made.plain(4, new int[1], new int[] {7}).sold(8), 0);
        SAID.is("sold(8): no makers", new NoneMayLeave().sold(8), 0);
        SAID.refused(Made::rich, "sold(0)", y -> y.sold(0), -6);
        SAID.refused(Made::rich, "sold(9)", y -> y.sold(9), -6);
        SAID.refused(Made::rich, "sold(-1)", y -> y.sold(-1), -6);
    }

    private static void stand() {
        SAID.says("STAND: the greatest k for which WITHOUT k holds; NONE.");
        for (int many = 0; many <= 8; many++) {
            int[] known = {15, 15, 15, 15, 15, 15, 15, 15};
            NoneMayLeave x = Made.plain(4, new int[many], known);
            SAID.is("stands() of " + many + " who know all", x.stands(), many - 1);
        }
        NoneMayLeave x = Made.plain(4, new int[4], new int[] {15, 14, 15, 7});
        SAID.is("stands(): three know the rarest", x.stands(), 2);
        x.bid(0, 0);
        SAID.is("stands(): one is abroad", x.stands(), 1);
        x.deed(2, 0);
        SAID.is("stands(): one is shut up", x.stands(), 0);
        x.ask(0, 0);
        x.bid(3, 0);
        SAID.is("stands(): nobody at home knows part 0", x.stands(), -1);
    }

    private static void lessons() {
        SAID.says("LESSONS so that WITHOUT k holds, each HOME by one who is HOME and KNOWS it: how few (a PART to one "
            + "MAKER each): by going through PARTS: each must be KNOWN to k and 1 of those at HOME");
        NoneMayLeave x = Made.plain(4, new int[4], new int[] {15, 3, 1, 0});
        int[] due = {0, 2, 5, 9};
        for (int k = 0; k < 4; k++) {
            SAID.is("lessons(" + k + ")", x.lessons(k), due[k]);
        }
        x.bid(1, 0);
        SAID.is("lessons(1): one is abroad", x.lessons(1), 3);
        SAID.is("lessons(2): one is abroad", x.lessons(2), 7);
        NoneMayLeave all = Made.plain(8, new int[8], new int[] {255});
        SAID.is("lessons(7) by one to seven", all.lessons(7), 56);
        SAID.refused(Made::rich, "lessons(-1)", y -> y.lessons(-1), -16);
        SAID.refused(Made::rich, "lessons(9)", y -> y.lessons(9), -16);
    }

    private static void lessonsNone() {
        SAID.says("NONE: they are fewer, or a PART that nobody there KNOWS.");
        NoneMayLeave x = Made.plain(4, new int[3], new int[] {15, 15, 15});
        SAID.is("lessons(2) of three", x.lessons(2), 0);
        SAID.is("lessons(3) of three", x.lessons(3), -1);
        SAID.is("lessons(8) of three", x.lessons(8), -1);
        NoneMayLeave eight = Made.plain(4, new int[8], new int[] {15, 15, 15, 15, 15, 15, 15, 15});
        SAID.is("lessons(7) of eight", eight.lessons(7), 0);
        SAID.is("lessons(8) of eight", eight.lessons(8), -1);
        SAID.is("lessons(0) of none", new NoneMayLeave().lessons(0), -1);
        NoneMayLeave first = Made.plain(4, new int[2], new int[] {14, 14});
        SAID.is("lessons(0): nobody knows the first", first.lessons(0), -1);
        NoneMayLeave last = Made.plain(4, new int[2], new int[] {7, 15});
        SAID.is("lessons(1): one knows the last", last.lessons(1), 1);
        last.deed(1, 0);
        SAID.is("lessons(0): who knows the last is shut up", last.lessons(0), -1);
    }

    private static void offer() {
        SAID.says("OFFER b (0 to 999): MAKERS at HOME (bits) who would go, if all were bid b "
            + "(each by PRICE as it is now).");
        NoneMayLeave x = Made.plain(4, new int[] {0, 10, 11, 10, 10, 99}, new int[0]);
        x.bid(4, 10);
        SAID.is("offer(0)", x.offer(0), 1);
        SAID.is("offer(9)", x.offer(9), 1);
        SAID.is("offer(10): who is abroad isn't asked", x.offer(10), 1 | 2 | 8);
        SAID.is("offer(11)", x.offer(11), 1 | 2 | 4 | 8);
        x.ask(1, 0);
        SAID.is("offer(999): whatever PURSE has", x.offer(999), 1 | 2 | 4 | 8 | 32);
        x.deed(1, 0);
        SAID.is("offer(16): FEAR is 5, one is shut up", x.offer(16), 1 | 4 | 8);
        SAID.is("offer(15): FEAR is 5", x.offer(15), 1 | 8);
        SAID.is("offer(4): FEAR is 5", x.offer(4), 0);
        NoneMayLeave kin = Made.by("maker 1 0 10;maker 1 0 10;kin 0 1");
        SAID.is("offer(14): each by kin who are at home now", kin.offer(14), 0);
        SAID.is("offer(15): each by kin who are at home now", kin.offer(15), 3);
        SAID.refused(Made::rich, "offer(-1)", y -> y.offer(-1), -6);
        SAID.refused(Made::rich, "offer(1000)", y -> y.offer(1000), -6);
    }

    private static void spend() {
        SAID.says("SPEND: the set of those at HOME with PRICES together within PURSE by which most PARTS are KNOWN "
            + "ABROAD then");
        NoneMayLeave x = Made.plain(6, new int[] {60, 40, 40, 20, 30}, new int[] {7, 8, 16, 32, 7});
        x.deed(4, 0);
        x.ask(0, 0);
        SAID.is("spend(): 80 of 100 for four", x.spend(), 1 | 8);
        x.ask(1, 120);
        SAID.is("spend(): 120 for five", x.spend(), 1 | 2 | 8);
        x.ask(1, 119);
        SAID.is("spend(): 119 for four", x.spend(), 1 | 8);
        x.ask(1, 160);
        SAID.is("spend(): 160 for all", x.spend(), 15);
        x.ask(1, 159);
        SAID.is("spend(): 159 for five", x.spend(), 1 | 2 | 8);
        x.bid(0, 60);
        SAID.is("spend(): with one abroad", x.spend(), 2 | 8);
        x.ask(1, 19);
        SAID.is("spend(): nobody", x.spend(), 0);
        SAID.is("spend(): no makers", new NoneMayLeave().spend(), 0);
    }

    private static void spendTies() {
        SAID.says("of several the cheapest, then the least as bits.");
        NoneMayLeave x = Made.plain(4, new int[] {30, 20, 10, 20}, new int[] {3, 3, 0, 3});
        SAID.is("spend(): 1, not 0, 3 or more of them", x.spend(), 2);
        x.bid(1, 20);
        SAID.is("spend(): nobody makes it more", x.spend(), 0);
        NoneMayLeave y = Made.plain(4, new int[] {0, 20, 20}, new int[] {0, 1, 2});
        y.ask(1, 20);
        SAID.is("spend(): 1, not 2 nor 0 and 1", y.spend(), 2);
        NoneMayLeave z = Made.plain(4, new int[] {10, 10, 20}, new int[] {1, 2, 3});
        SAID.is("spend(): 0 and 1, not 2", z.spend(), 3);
    }

    // ---- the council

    private static void council() {
        SAID.says("COUNCIL of m moves (0 to 2), against a court that then takes CHEAPEST: the moves (each: SHUT, KILL, "
            + "or nothing) by which CHEAPEST costs most");
        NoneMayLeave x = Made.plain(4, new int[] {10, 20, 30}, new int[] {15, 15, 15});
        SAID.is("council(0, NONE)", x.council(0, -1), 10);
        SAID.is("council(1, NONE): 0 shut up, FEAR 5", x.council(1, -1), 25);
        SAID.is("council(1, 0)", x.council(1, 0), 10);
        SAID.is("council(2, NONE): 0 and 1 shut up, FEAR 10", x.council(2, -1), 40);
        SAID.is("council(2, 0)", x.council(2, 0), 10);
        SAID.is("council(2, 1)", x.council(2, 1), 11);
        NoneMayLeave y = Made.plain(4, new int[] {0, 20, 30}, new int[] {3, 15, 12});
        y.bid(0, 0);
        SAID.is("council(0, NONE)", y.council(0, -1), 20);
        SAID.is("council(1, NONE): 1 shut up, not 0 killed, FEAR 5", y.council(1, -1), 35);
        SAID.is("council(1, 0)", y.council(1, 0), 11);
        y.ask(1, 9999);
        y.maker(0, 0, 22);
        Made.know(y, 3, 15);
        SAID.is("council(1, NONE): 0 killed, FEAR 10", y.council(1, -1), 30);
        SAID.is("council(1, 0)", y.council(1, 0), 20);
        NoneMayLeave kin = Made.plain(4, new int[0], new int[0]);
        kin.maker(1, 0, 10);
        kin.maker(0, 0, 0);
        kin.maker(0, 0, 0);
        kin.kin(0, 1, true);
        kin.kin(0, 2, true);
        Made.know(kin, 0, 15);
        kin.bid(1, 0);
        kin.ask(0, 99);
        kin.ask(1, 9999);
        SAID.is("council(0, NONE): one kin at home", kin.council(0, -1), 10 + 99 + 5);
        kin.deed(0, 0);
        SAID.is("council(0, NONE): nobody", kin.council(0, -1), 10000);
        SAID.refused(Made::rich, "council(-1, -1)", z -> z.council(-1, -1), -6);
        SAID.refused(Made::rich, "council(3, -1)", z -> z.council(3, -1), -6);
    }

    private static void councilNone() {
        SAID.says("(none, or more than PURSE: 10000)");
        NoneMayLeave x = Made.plain(4, new int[] {25}, new int[] {15});
        x.ask(1, 25);
        SAID.is("council(0, NONE): just PURSE", x.council(0, -1), 25);
        x.ask(1, 24);
        SAID.is("council(0, NONE): more than PURSE", x.council(0, -1), 10000);
        x.ask(1, 30);
        SAID.is("council(1, NONE): shut up, so none", x.council(1, -1), 10000);
        SAID.is("council(0, NONE): no makers", new NoneMayLeave().council(0, -1), 10000);
        SAID.is("council(2, NONE): no makers", new NoneMayLeave().council(2, -1), 10000);
        NoneMayLeave y = Made.plain(4, new int[] {25, 28}, new int[] {15, 15});
        y.ask(1, 33);
        SAID.is("council(1, NONE): 28 and FEAR 5", y.council(1, -1), 33);
        y.ask(1, 32);
        SAID.is("council(1, NONE): 28 and FEAR 5 are more than PURSE", y.council(1, -1), 10000);
    }

    private static void councilFirst() {
        SAID.says("of several the first");
        SAID.is("council(1, 0): nothing need be done", new NoneMayLeave().council(1, 0), 0);
        SAID.is("council(2, 0): nothing need be done", new NoneMayLeave().council(2, 0), 0);
        SAID.is("council(2, 1): nothing need be done", new NoneMayLeave().council(2, 1), 0);
        NoneMayLeave x = Made.plain(4, new int[] {10, 10, 10}, new int[] {3, 12, 0});
        // To shut up 0 or 1 is enough: so nothing first, and then 0.
        SAID.is("council(2, NONE)", x.council(2, -1), 10000);
        SAID.is("council(2, 0)", x.council(2, 0), 0);
        SAID.is("council(2, 1)", x.council(2, 1), 10);
        SAID.is("council(1, 0)", x.council(1, 0), 10);
        NoneMayLeave y = Made.plain(4, new int[] {10, 10}, new int[] {15, 15});
        // Whoever is shut up, the other one goes for 15: so 0. Both in either order: so 0, then 1.
        SAID.is("council(1, NONE)", y.council(1, -1), 15);
        SAID.is("council(1, 0)", y.council(1, 0), 10);
        SAID.is("council(2, 0)", y.council(2, 0), 10);
        SAID.is("council(2, 1)", y.council(2, 1), 11);
        NoneMayLeave z = Made.plain(4, new int[] {10, 10}, new int[] {3, 12});
        z.bid(0, 10);
        SAID.is("council(1, 0): 1 shut up ahead of 0 killed", z.council(1, 0), 11);
        // Spies who go for nothing, whatever is done.
        Texts.island(z, "maker 5 0 0;maker 5 0 0;maker 5 0 0");
        for (int m = 2; m < 5; m++) {
            Made.know(z, m, 15);
        }
        SAID.is("council(2, NONE): it costs nothing, whatever is done", z.council(2, -1), 0);
        SAID.is("council(2, 0): so nothing", z.council(2, 0), 0);
        SAID.is("council(2, 1): so nothing", z.council(2, 1), 0);
    }

    private static void councilNumbers() {
        SAID.says("moves by numbers: 0 nothing, 10 and a MAKER SHUT, 20 and a MAKER KILLED; what that is; "
            + "the i-th move.");
        NoneMayLeave x = Made.plain(8, new int[8], new int[] {1, 2, 4, 8, 16, 32, 64, 128});
        for (int m = 0; m < 7; m++) {
            x.bid(m, 0);
        }
        x.ask(1, 9999);
        SAID.is("council(0, NONE): 7 goes for nothing", x.council(0, -1), 0);
        SAID.is("council(1, 0): 7 shut up", x.council(1, 0), 17);
        SAID.is("council(1, NONE)", x.council(1, -1), 10000);
        x.bid(7, 0);
        x.maker(0, 0, 0);
        SAID.is("council(0, NONE): made already", x.council(0, -1), 0);
        SAID.is("council(1, 0): 0 killed", x.council(1, 0), 20);
        NoneMayLeave y = Made.plain(4, new int[8], new int[] {0, 0, 0, 0, 0, 0, 0, 15});
        y.bid(7, 0);
        SAID.is("council(1, 0): 7 killed", y.council(1, 0), 27);
        SAID.is("council(2, 0): nothing", y.council(2, 0), 0);
        SAID.is("council(2, 1): 7 killed", y.council(2, 1), 27);
        SAID.refused(Made::rich, "council(0, 0)", z -> z.council(0, 0), -5);
        SAID.refused(Made::rich, "council(1, 1)", z -> z.council(1, 1), -5);
        SAID.refused(Made::rich, "council(2, 2)", z -> z.council(2, 2), -5);
        SAID.refused(Made::rich, "council(2, -2)", z -> z.council(2, -2), -5);
    }
}
