import java.util.function.ToLongFunction;

/** Promises 17 to 27, sentence by sentence. */
public final class PromisesReckoningTest {
    private static final Said SAID = new Said("PromisesReckoningTest");

    private PromisesReckoningTest() {
    }

    public static void main(String[] args) {
        abroad();
        fewest();
        cheapest();
        alone();
        without();
        sold();
        stands();
        lessons();
        offer();
        spend();
        council();
        SAID.end();
    }

    /** Numbers beside those from least to most, near and far: all are refused so. */
    private static void beside(String call, int least, int most, Asks asks, int no) {
        int[] beside = {least - 1, most + 1, Integer.MIN_VALUE, Integer.MAX_VALUE};
        for (int v : beside) {
            SAID.refused(Made::rich, call + "(" + v + ")", x -> asks.of(x, v), no);
        }
    }

    private interface Asks {
        long of(NoneMayLeave x, int v);
    }

    /** Answers of new objects: nothing is refused and nothing changes. */
    private static void is(String call, ToLongFunction<NoneMayLeave> asks, long due) {
        SAID.quiet(Made::rich, call, asks, due);
    }

    private static void ofNew(String call, ToLongFunction<NoneMayLeave> asks, long due) {
        SAID.quiet(NoneMayLeave::new, call + " of a new object", asks, due);
    }

    /** Makers 0 and 1 of 10 and 20, who know all together; 2 of 30, who knows all alone. */
    private static NoneMayLeave three() {
        return Made.plain(4, new int[] {10, 20, 31}, new int[] {3, 12, 15});
    }

    private static NoneMayLeave made() {
        NoneMayLeave x = three();
        x.bid(2, 31);
        return x;
    }

    private static void three(String call, ToLongFunction<NoneMayLeave> asks, long due) {
        SAID.quiet(PromisesReckoningTest::three, call + " of three", asks, due);
    }

    private static void made(String call, ToLongFunction<NoneMayLeave> asks, long due) {
        SAID.quiet(PromisesReckoningTest::made, call + " when it is made", asks, due);
    }

    private static void abroad() {
        SAID.promise(17);
        SAID.says("ABROAD: whether it is MADE (what 0; 1, 0), PARTS that lack (1).");
        is("abroad(0)", x -> x.abroad(0), 0);
        is("abroad(1)", x -> x.abroad(1), 13);
        made("abroad(0)", x -> x.abroad(0), 1);
        made("abroad(1)", x -> x.abroad(1), 0);
        ofNew("abroad(0)", x -> x.abroad(0), 0);
        ofNew("abroad(1)", x -> x.abroad(1), 15);
        SAID.says("-5 another what.");
        beside("abroad", 0, 1, NoneMayLeave::abroad, -5);
    }

    private static void fewest() {
        SAID.promise(18);
        SAID.says("FEWEST; NONE.");
        is("fewest()", x -> x.fewest(), 1 | 4 | 8);
        three("fewest()", x -> x.fewest(), 4);
        made("fewest()", x -> x.fewest(), 0);
        ofNew("fewest()", x -> x.fewest(), -1);
    }

    private static void cheapest() {
        SAID.promise(19);
        SAID.says("CHEAPEST (what 0; NONE), how much (1; NONE), whether PURSE has that (2; 0 also if there is none).");
        three("cheapest(0)", x -> x.cheapest(0), 3);
        three("cheapest(1)", x -> x.cheapest(1), 30);
        three("cheapest(2)", x -> x.cheapest(2), 1);
        is("cheapest(0)", x -> x.cheapest(0), 1 | 4 | 8);
        is("cheapest(1)", x -> x.cheapest(1), 25 + 30 + 72);
        is("cheapest(2)", x -> x.cheapest(2), 1);
        made("cheapest(0)", x -> x.cheapest(0), 0);
        made("cheapest(1)", x -> x.cheapest(1), 0);
        made("cheapest(2)", x -> x.cheapest(2), 1);
        ofNew("cheapest(0)", x -> x.cheapest(0), -1);
        ofNew("cheapest(1)", x -> x.cheapest(1), -1);
        ofNew("cheapest(2)", x -> x.cheapest(2), 0);
        NoneMayLeave poor = three();
        poor.ask(1, 29);
        SAID.is("cheapest(2): PURSE has 1 less", poor.cheapest(2), 0);
        poor.ask(1, 30);
        SAID.is("cheapest(2): PURSE has just that", poor.cheapest(2), 1);
        SAID.says("-15 another what (counted as -5).");
        beside("cheapest", 0, 2, NoneMayLeave::cheapest, -15);
        SAID.refused(NoneMayLeave::new, "cheapest(3) of a new object", x -> x.cheapest(3), -15);
    }

    private static void alone() {
        SAID.promise(20);
        SAID.says("ALONE (what 0), KEY (1; NONE).");
        is("alone(0)", x -> x.alone(0), 4 | 8);
        is("alone(1)", x -> x.alone(1), 2);
        three("alone(0)", x -> x.alone(0), 0);
        three("alone(1)", x -> x.alone(1), -1);
        ofNew("alone(0)", x -> x.alone(0), 0);
        ofNew("alone(1)", x -> x.alone(1), -1);
        SAID.says("-15 another what (counted as -5).");
        beside("alone", 0, 1, NoneMayLeave::alone, -15);
        SAID.refused(NoneMayLeave::new, "alone(2) of a new object", x -> x.alone(2), -15);
    }

    private static void without() {
        SAID.promise(21);
        SAID.says("WITHOUT k.");
        int[] due = {1, 1, 0, 0, 0, 0, 0, 0, 0};
        for (int k = 0; k <= 8; k++) {
            int many = k;
            three("without(" + k + ")", x -> x.without(many), due[k]);
            ofNew("without(" + k + ")", x -> x.without(many), 0);
        }
        SAID.says("-6.");
        beside("without", 0, 8, NoneMayLeave::without, -6);
    }

    private static void sold() {
        SAID.promise(22);
        SAID.says("SOLD by k.");
        for (int k = 1; k <= 8; k++) {
            int many = k;
            three("sold(" + k + ")", x -> x.sold(many), 1);
            is("sold(" + k + ")", x -> x.sold(many), k >= 4 ? 1 : 0);
            ofNew("sold(" + k + ")", x -> x.sold(many), 0);
        }
        SAID.says("-6.");
        beside("sold", 1, 8, NoneMayLeave::sold, -6);
    }

    private static void stands() {
        SAID.promise(23);
        SAID.says("STAND; NONE.");
        three("stands()", x -> x.stands(), 1);
        made("stands()", x -> x.stands(), 0);
        is("stands()", x -> x.stands(), 0);
        ofNew("stands()", x -> x.stands(), -1);
    }

    private static void lessons() {
        SAID.promise(24);
        SAID.says("LESSONS for WITHOUT k; NONE.");
        int[] due = {0, 0, 4, -1, -1, -1, -1, -1, -1};
        for (int k = 0; k <= 8; k++) {
            int many = k;
            three("lessons(" + k + ")", x -> x.lessons(many), due[k]);
            ofNew("lessons(" + k + ")", x -> x.lessons(many), -1);
        }
        NoneMayLeave x = Made.plain(4, new int[8], new int[] {15});
        SAID.is("lessons(7) of eight", x.lessons(7), 28);
        SAID.is("lessons(8) of eight", x.lessons(8), -1);
        SAID.says("-16 (counted as -6).");
        beside("lessons", 0, 8, NoneMayLeave::lessons, -16);
        SAID.refused(NoneMayLeave::new, "lessons(9) of a new object", y -> y.lessons(9), -16);
    }

    private static void offer() {
        SAID.promise(25);
        SAID.says("OFFER.");
        int[] bids = {0, 9, 10, 20, 30, 31, 999};
        int[] due = {0, 0, 1, 3, 3, 7, 7};
        for (int i = 0; i < bids.length; i++) {
            int b = bids[i];
            three("offer(" + b + ")", x -> x.offer(b), due[i]);
        }
        ofNew("offer(999)", x -> x.offer(999), 0);
        is("offer(999)", x -> x.offer(999), 15);
        SAID.says("-6.");
        beside("offer", 0, 999, NoneMayLeave::offer, -6);
    }

    private static void spend() {
        SAID.promise(26);
        SAID.says("SPEND.");
        int[] purses = {0, 9, 10, 19, 20, 29, 30, 31, 9999};
        int[] due = {0, 0, 1, 1, 1, 1, 3, 3, 3};
        for (int i = 0; i < purses.length; i++) {
            NoneMayLeave x = three();
            x.ask(1, purses[i]);
            SAID.is("spend() of " + purses[i], x.spend(), due[i]);
        }
        made("spend()", x -> x.spend(), 0);
        ofNew("spend()", x -> x.spend(), 0);
    }

    private static void council() {
        SAID.promise(27);
        SAID.says("COUNCIL: what CHEAPEST costs then (i NONE), the i-th move.");
        three("council(0, NONE)", x -> x.council(0, -1), 30);
        // To shut up 0 or 1 leaves 2 for 36; to shut up 2 leaves both for 40.
        three("council(1, NONE)", x -> x.council(1, -1), 40);
        three("council(1, 0)", x -> x.council(1, 0), 12);
        three("council(2, NONE)", x -> x.council(2, -1), 10000);
        three("council(2, 0)", x -> x.council(2, 0), 10);
        three("council(2, 1)", x -> x.council(2, 1), 12);
        ofNew("council(0, NONE)", x -> x.council(0, -1), 10000);
        ofNew("council(2, 1)", x -> x.council(2, 1), 0);
        SAID.says("-5 no such i");
        int[][] none = {{0, 0}, {1, 1}, {2, 2}, {0, -2}, {1, -2}, {2, -2}, {2, Integer.MAX_VALUE},
            {2, Integer.MIN_VALUE}};
        for (int[] mi : none) {
            SAID.refused(Made::rich, "council(" + mi[0] + ", " + mi[1] + ")", x -> x.council(mi[0], mi[1]), -5);
        }
        SAID.says("-6 m.");
        beside("council m, NONE", 0, 2, (x, m) -> x.council(m, -1), -6);
        beside("council m, 0", 0, 2, (x, m) -> x.council(m, 0), -6);
        beside("council m, 99", 0, 2, (x, m) -> x.council(m, 99), -6);
        beside("council m, -2", 0, 2, (x, m) -> x.council(m, -2), -6);
    }
}
