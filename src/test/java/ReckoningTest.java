/** Promises 17 to 27: what comes of it, with nothing changed. */
public final class ReckoningTest {
    private static final Due DUE = new Due("ReckoningTest");

    private ReckoningTest() {
    }

    public static void main(String[] args) {
        abroad();
        fewest();
        eight();
        firsts();
        cheapest();
        alone();
        without();
        sold();
        standsAndLessons();
        offer();
        spend();
        council();
        councilKills();
        councilMore();
        nothingChanges();
        DUE.end();
    }

    /** Plain makers with these wants and these parts (bits), all at home, and so many parts (4 at least). */
    private static NoneMayLeave plain(int parts, int[] wants, int[] known) {
        NoneMayLeave x = new NoneMayLeave();
        x.parts(parts);
        for (int m = 0; m < wants.length; m++) {
            x.maker(0, 0, wants[m]);
            for (int p = 0; p < parts; p++) {
                if ((known[m] >> p & 1) != 0) {
                    x.knows(m, p, true);
                }
            }
        }
        return x;
    }

    private static void abroad() {
        NoneMayLeave x = plain(5, new int[] {1, 1, 1}, new int[] {3, 6, 24});
        DUE.is("abroad(0): nobody", x.abroad(0), 0);
        DUE.is("abroad(1): nobody", x.abroad(1), 31);
        x.bid(1, 1);
        DUE.is("abroad(1)", x.abroad(1), 25);
        x.bid(2, 1);
        DUE.is("abroad(1)", x.abroad(1), 1);
        DUE.is("abroad(0)", x.abroad(0), 0);
        x.bid(0, 1);
        DUE.is("abroad(1)", x.abroad(1), 0);
        DUE.is("abroad(0)", x.abroad(0), 1);
        x.deed(1, 1);
        DUE.is("abroad(1): one dead", x.abroad(1), 4);
        DUE.is("abroad(2)", x.abroad(2), -5);
        DUE.is("abroad(-1)", x.abroad(-1), -5);
        DUE.is("status(15)", x.status(15), 2);
    }

    private static void fewest() {
        NoneMayLeave x = plain(4, new int[] {9, 1, 1, 9, 9}, new int[] {7, 3, 12, 15, 8});
        DUE.is("fewest: one alone", x.fewest(), 8);
        x.deed(3, 0);
        DUE.is("fewest: two, the least as bits", x.fewest(), 5);
        x.bid(1, 6);
        DUE.is("fewest: with those abroad", x.fewest(), 4);
        x.bid(2, 6);
        DUE.is("fewest: it's made already", x.fewest(), 0);
        x.deed(2, 1);
        x.deed(1, 1);
        DUE.is("fewest: not the dead, not the shut", x.fewest(), 17);
        x.deed(0, 0);
        DUE.is("fewest: none", x.fewest(), -1);
        DUE.is("fewest: nobody there", new NoneMayLeave().fewest(), -1);
    }

    /** Eight makers, each alone with his part. */
    private static void eight() {
        NoneMayLeave x = plain(8, new int[8], new int[] {1, 2, 4, 8, 16, 32, 64, 128});
        DUE.is("fewest: all eight", x.fewest(), 255);
        DUE.is("cheapest(0): all eight", x.cheapest(0), 255);
        DUE.is("spend(): all eight", x.spend(), 255);
        DUE.is("sold(7)", x.sold(7), 0);
        DUE.is("sold(8)", x.sold(8), 1);
        DUE.is("offer(0): all eight", x.offer(0), 255);
        DUE.is("alone(0): all eight", x.alone(0), 255);
        DUE.is("alone(1): the first", x.alone(1), 0);
        DUE.is("stands()", x.stands(), 0);
        DUE.is("lessons(7)", x.lessons(7), 56);
        DUE.is("lessons(8)", x.lessons(8), -1);
        DUE.is("council(1, NONE)", x.council(1, -1), 10000);
        DUE.is("council(1, 0)", x.council(1, 0), 10);
        x.bid(7, 0);
        x.knows(0, 7, true);
        x.knows(7, 0, true);
        x.knows(7, 1, true);
        for (int p = 2; p < 7; p++) {
            x.knows(0, p, true);
            x.knows(1, p, true);
        }
        x.ask(1, 9999);
        DUE.is("council(1, NONE): the last killed", x.council(1, -1), 20);
        DUE.is("council(1, 0): the last killed", x.council(1, 0), 27);
    }

    /** Where the first part or the first maker alone makes the difference. */
    private static void firsts() {
        NoneMayLeave x = plain(4, new int[] {1, 1}, new int[] {14, 14});
        DUE.is("alone(0): the first part nobody knows", x.alone(0), 0);
        DUE.is("stands(): the first part", x.stands(), -1);
        DUE.is("lessons(0): the first part", x.lessons(0), -1);
        x.knows(0, 0, true);
        DUE.is("stands(): the first part", x.stands(), 0);
        DUE.is("lessons(1): the first part", x.lessons(1), 1);
        DUE.is("alone(0): the first part", x.alone(0), 1);
        DUE.is("alone(1): the first maker", x.alone(1), 0);
    }

    private static void cheapest() {
        NoneMayLeave x = plain(4, new int[] {20, 60, 21, 19}, new int[] {3, 15, 12, 12});
        DUE.is("cheapest(0)", x.cheapest(0), 9);
        DUE.is("cheapest(1)", x.cheapest(1), 39);
        DUE.is("cheapest(2)", x.cheapest(2), 1);
        x.ask(1, 39);
        DUE.is("cheapest(2): just that", x.cheapest(2), 1);
        x.ask(1, 38);
        DUE.is("cheapest(2): one less", x.cheapest(2), 0);
        DUE.is("cheapest(0): whatever the purse has", x.cheapest(0), 9);
        x.ask(0, 30);
        DUE.is("cheapest(0): fear makes one cheaper than two", x.cheapest(0), 2);
        DUE.is("cheapest(1)", x.cheapest(1), 90);
        x.ask(0, 21);
        DUE.is("cheapest(0): as dear, the least as bits", x.cheapest(0), 2);
        x.ask(0, 0);
        x.ask(1, 100);
        x.bid(3, 19);
        DUE.is("cheapest(0): with those abroad", x.cheapest(0), 1);
        x.bid(0, 20);
        DUE.is("cheapest(0): it's made", x.cheapest(0), 0);
        DUE.is("cheapest(1): it's made", x.cheapest(1), 0);
        x.ask(1, 0);
        DUE.is("cheapest(2): it's made", x.cheapest(2), 1);
        DUE.is("cheapest(3)", x.cheapest(3), -15);
        DUE.is("cheapest(-1)", x.cheapest(-1), -15);
        DUE.is("status(15)", x.status(15), 2);
        NoneMayLeave y = plain(4, new int[] {0, 0, 0}, new int[] {15, 15, 0});
        DUE.is("cheapest(0): several for nothing", y.cheapest(0), 1);
        NoneMayLeave z = plain(4, new int[] {0, 0}, new int[] {7, 7});
        DUE.is("cheapest(0): none", z.cheapest(0), -1);
        DUE.is("cheapest(1): none", z.cheapest(1), -1);
        DUE.is("cheapest(2): none", z.cheapest(2), 0);
    }

    private static void alone() {
        NoneMayLeave x = plain(5, new int[] {1, 1, 1, 1}, new int[] {1, 3, 12, 4});
        DUE.is("alone(0)", x.alone(0), 10);
        DUE.is("alone(1): of several the first", x.alone(1), 1);
        x.knows(2, 4, true);
        DUE.is("alone(0)", x.alone(0), 26);
        DUE.is("alone(1): who knows most", x.alone(1), 2);
        x.bid(0, 1);
        DUE.is("alone(0): abroad counts", x.alone(0), 26);
        x.deed(3, 0);
        DUE.is("alone(0): shut up counts", x.alone(0), 26);
        x.deed(0, 1);
        DUE.is("alone(0): the dead don't", x.alone(0), 27);
        DUE.is("alone(1): of several the first", x.alone(1), 1);
        DUE.is("alone(2)", x.alone(2), -15);
        DUE.is("alone(-1)", x.alone(-1), -15);
        DUE.is("status(15)", x.status(15), 2);
        NoneMayLeave y = plain(4, new int[] {1, 1}, new int[] {7, 7});
        DUE.is("alone(0): none", y.alone(0), 0);
        DUE.is("alone(1): none", y.alone(1), -1);
        y.bid(0, 1);
        y.deed(0, 1);
        DUE.is("alone(0): one is dead", y.alone(0), 7);
        DUE.is("alone(1): not the dead", y.alone(1), 1);
    }

    private static void without() {
        NoneMayLeave x = plain(4, new int[] {1, 1, 1}, new int[] {15, 15, 7});
        int[] due = {1, 1, 0, 0, 0, 0, 0, 0, 0};
        for (int k = 0; k <= 8; k++) {
            DUE.is("without(" + k + ")", x.without(k), due[k]);
        }
        x.bid(0, 1);
        DUE.is("without(0): those at home", x.without(0), 1);
        DUE.is("without(1): those at home", x.without(1), 0);
        x.deed(1, 0);
        DUE.is("without(0): no part 3", x.without(0), 0);
        DUE.is("without(-1)", x.without(-1), -6);
        DUE.is("without(9)", x.without(9), -6);
        DUE.is("status(16)", x.status(16), 2);
        NoneMayLeave y = plain(4, new int[8], new int[] {15, 15, 15, 15, 15, 15, 15, 15});
        DUE.is("without(7) of 8", y.without(7), 1);
        DUE.is("without(8) of 8", y.without(8), 0);
        DUE.is("stands() of 8", y.stands(), 7);
    }

    private static void sold() {
        NoneMayLeave x = plain(4, new int[] {1, 1, 1, 1}, new int[] {1, 2, 12, 7});
        DUE.is("sold(1)", x.sold(1), 0);
        DUE.is("sold(2)", x.sold(2), 1);
        DUE.is("sold(8): or fewer", x.sold(8), 1);
        x.bid(3, 1);
        x.deed(2, 0);
        DUE.is("sold(2): abroad and shut up too", x.sold(2), 1);
        x.deed(3, 1);
        DUE.is("sold(2): not the dead", x.sold(2), 0);
        DUE.is("sold(3)", x.sold(3), 1);
        x.knows(0, 0, false);
        DUE.is("sold(8): never", x.sold(8), 0);
        DUE.is("sold(0)", x.sold(0), -6);
        DUE.is("sold(9)", x.sold(9), -6);
        DUE.is("status(16)", x.status(16), 2);
    }

    private static void standsAndLessons() {
        NoneMayLeave x = plain(4, new int[] {1, 1, 1, 1}, new int[] {15, 15, 3, 1});
        DUE.is("stands()", x.stands(), 1);
        int[] due = {0, 0, 2, 5, -1, -1, -1, -1, -1};
        for (int k = 0; k <= 8; k++) {
            DUE.is("lessons(" + k + ")", x.lessons(k), due[k]);
        }
        x.bid(0, 1);
        DUE.is("stands(): one abroad", x.stands(), 0);
        DUE.is("lessons(2): one abroad", x.lessons(2), 5);
        DUE.is("lessons(3): they are fewer", x.lessons(3), -1);
        x.deed(1, 0);
        DUE.is("stands(): never", x.stands(), -1);
        DUE.is("lessons(0): nobody knows it", x.lessons(0), -1);
        DUE.is("lessons(-1)", x.lessons(-1), -16);
        DUE.is("lessons(9)", x.lessons(9), -16);
        DUE.is("status(16)", x.status(16), 2);
        DUE.is("stands(): nobody there", new NoneMayLeave().stands(), -1);
    }

    private static void offer() {
        NoneMayLeave x = plain(4, new int[] {10, 11, 12, 10}, new int[4]);
        DUE.is("offer(0)", x.offer(0), 0);
        DUE.is("offer(10)", x.offer(10), 9);
        DUE.is("offer(11)", x.offer(11), 11);
        x.ask(1, 10);
        DUE.is("offer(999): whatever the purse has", x.offer(999), 15);
        x.bid(0, 10);
        x.deed(1, 0);
        DUE.is("offer(999): at home", x.offer(999), 12);
        DUE.is("offer(15): with fear", x.offer(15), 8);
        DUE.is("offer(-1)", x.offer(-1), -6);
        DUE.is("offer(1000)", x.offer(1000), -6);
        DUE.is("status(16)", x.status(16), 2);
    }

    private static void spend() {
        NoneMayLeave x = plain(5, new int[] {50, 30, 30, 40, 25}, new int[] {7, 1, 2, 24, 1});
        DUE.is("spend()", x.spend(), 9);
        x.ask(1, 89);
        DUE.is("spend(): the cheaper of several", x.spend(), 1);
        x.ask(1, 55);
        DUE.is("spend(): three parts", x.spend(), 1);
        x.ask(1, 49);
        DUE.is("spend(): two parts", x.spend(), 8);
        x.ask(1, 30);
        DUE.is("spend(): one part, the cheapest", x.spend(), 16);
        x.ask(1, 24);
        DUE.is("spend(): nothing", x.spend(), 0);
        x.ask(1, 100);
        x.bid(3, 40);
        DUE.is("spend(): with those abroad", x.spend(), 1);
        NoneMayLeave y = plain(4, new int[] {10, 10, 0}, new int[] {1, 2, 1});
        y.ask(1, 9);
        DUE.is("spend(): for nothing", y.spend(), 4);
        y.ask(1, 10);
        DUE.is("spend(): two parts", y.spend(), 6);
        NoneMayLeave z = plain(4, new int[] {10, 10, 0}, new int[] {1, 2, 0});
        z.ask(1, 10);
        DUE.is("spend(): as dear, the least as bits", z.spend(), 1);
        DUE.is("spend(): nobody for one who knows nothing", plain(4, new int[1], new int[1]).spend(), 0);
    }

    private static void council() {
        NoneMayLeave x = plain(4, new int[] {10, 20, 15, 35}, new int[] {3, 12, 12, 15});
        DUE.is("council(0, NONE)", x.council(0, -1), 25);
        // 0 shut up: 35 and 5 for one who knows all; 3 would be as dear with one of 12 and one of 3: 35.
        DUE.is("council(1, NONE)", x.council(1, -1), 40);
        DUE.is("council(1, 0)", x.council(1, 0), 10);
        DUE.is("council(2, NONE): 0 and 3 shut up", x.council(2, -1), 10000);
        DUE.is("council(2, 0)", x.council(2, 0), 10);
        DUE.is("council(2, 1)", x.council(2, 1), 13);
        x.ask(1, 39);
        DUE.is("council(1, NONE): more than the purse", x.council(1, -1), 10000);
        DUE.is("council(0, NONE): the purse has it", x.council(0, -1), 25);
        x.ask(1, 25);
        DUE.is("council(0, NONE): the purse has just that", x.council(0, -1), 25);
        x.ask(1, 24);
        DUE.is("council(2, NONE): nothing need be done", x.council(2, -1), 10000);
        DUE.is("council(2, 0)", x.council(2, 0), 0);
        DUE.is("council(2, 1)", x.council(2, 1), 0);
        DUE.is("council(0, 0)", x.council(0, 0), -5);
        DUE.is("council(1, 1)", x.council(1, 1), -5);
        DUE.is("council(2, 2)", x.council(2, 2), -5);
        DUE.is("council(2, -2)", x.council(2, -2), -5);
        DUE.is("council(3, 5): m is wrong", x.council(3, 5), -6);
        DUE.is("council(-1, -1)", x.council(-1, -1), -6);
        DUE.is("status(15)", x.status(15), 4);
        DUE.is("status(16)", x.status(16), 2);
    }

    private static void councilKills() {
        NoneMayLeave x = plain(4, new int[] {10, 20, 15}, new int[] {3, 12, 12});
        x.bid(0, 10);
        DUE.is("council(0, NONE)", x.council(0, -1), 15);
        DUE.is("council(1, NONE): 0 killed, nobody else knows", x.council(1, -1), 10000);
        DUE.is("council(1, 0)", x.council(1, 0), 20);
        x.knows(1, 0, true);
        x.knows(1, 1, true);
        // 0 killed: 20 and 10. 2 shut up: 20 and 5.
        DUE.is("council(1, NONE)", x.council(1, -1), 30);
        DUE.is("council(1, 0)", x.council(1, 0), 20);
        // 1 shut up first, then 0 killed: nobody is left for parts 0 and 1.
        DUE.is("council(2, NONE)", x.council(2, -1), 10000);
        DUE.is("council(2, 0)", x.council(2, 0), 11);
        DUE.is("council(2, 1): 2 shut up then", x.council(2, 1), 12);
    }

    private static void councilMore() {
        NoneMayLeave x = new NoneMayLeave();
        x.maker(1, 0, 10);
        x.maker(0, 0, 40);
        x.kin(0, 1, true);
        for (int p = 0; p < 4; p++) {
            x.knows(0, p, true);
        }
        // Kin shut up make him cheaper by 5, fear dearer by 5: so nothing first.
        DUE.is("council(0, NONE)", x.council(0, -1), 15);
        DUE.is("council(1, NONE)", x.council(1, -1), 10000);
        DUE.is("council(1, 0)", x.council(1, 0), 10);
        x.maker(0, 0, 9);
        for (int p = 0; p < 4; p++) {
            x.knows(2, p, true);
        }
        DUE.is("council(1, NONE)", x.council(1, -1), 20);
        DUE.is("council(1, 0)", x.council(1, 0), 12);
        x.ask(0, 97);
        DUE.is("council(1, NONE): fear is 99 at most, but the purse has 100", x.council(1, -1), 10000);
        x.ask(1, 9999);
        DUE.is("council(1, NONE): fear is 99 at most", x.council(1, -1), 10 + 99 + 5);
        DUE.is("council(0, NONE)", new NoneMayLeave().council(0, -1), 10000);
        DUE.is("council(2, 1)", new NoneMayLeave().council(2, 1), 0);
    }

    private static void nothingChanges() {
        NoneMayLeave x = plain(4, new int[] {10, 20, 15, 35}, new int[] {3, 12, 12, 15});
        x.bid(0, 10);
        x.deed(1, 0);
        long before = sum(x);
        for (int i = 0; i < 3; i++) {
            x.abroad(i % 2);
            x.fewest();
            x.cheapest(i);
            x.alone(i % 2);
            x.without(i);
            x.sold(i + 1);
            x.stands();
            x.lessons(i);
            x.offer(i);
            x.spend();
            x.council(i, -1);
        }
        DUE.is("nothing is changed", sum(x), before);
    }

    private static long sum(NoneMayLeave x) {
        long sum = 0;
        for (int what = 0; what <= 8; what++) {
            sum = sum * 31 + x.status(what);
        }
        for (int m = 0; m < x.status(0); m++) {
            for (int what = 0; what <= 6; what++) {
                sum = sum * 31 + x.makerOf(m, what);
            }
        }
        return sum;
    }
}
