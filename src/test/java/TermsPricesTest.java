/** The document's terms, 2. PRICES AND DEEDS, sentence by sentence. */
public final class TermsPricesTest {
    private static final Said SAID = new Said("TermsPricesTest");
    private static final int FEAR = 9;

    private TermsPricesTest() {
    }

    public static void main(String[] args) {
        SAID.between("==== 2. PRICES AND DEEDS", "==== 3. WHAT COMES OF IT");
        plainPrices();
        otherPrices();
        bids();
        doubles();
        letters();
        shut();
        kill();
        free();
        months();
        SAID.end();
    }

    private static NoneMayLeave oneOf(int kind, int a, int want, int fear) {
        NoneMayLeave x = new NoneMayLeave();
        x.maker(kind, a, want);
        x.ask(0, fear);
        return x;
    }

    private static void price(int kind, int a, int want, int fear, int due) {
        NoneMayLeave x = oneOf(kind, a, want, fear);
        SAID.is("price of kind " + kind + ", a " + a + ", WANT " + want + " by FEAR " + fear, x.makerOf(0, 6), due);
    }

    /** One of a kind whose kin are two at home, one shut up, one abroad and one dead. */
    private static NoneMayLeave withKin(int kind) {
        NoneMayLeave x = new NoneMayLeave();
        x.maker(kind, 4, 50);
        for (int m = 1; m <= 6; m++) {
            x.maker(0, 0, 0);
            x.kin(m, m < 6 ? 0 : 5, true);
        }
        x.deed(3, 0);
        x.ask(0, 0);
        x.bid(4, 0);
        x.bid(5, 0);
        x.deed(5, 1);
        x.ask(0, FEAR);
        return x;
    }

    private static void plainPrices() {
        SAID.says("PRICE of a MAKER: MAKER WANT and FEAR");
        price(0, 9, 0, 0, 0);
        price(0, 9, 50, 0, 50);
        price(0, 9, 50, 7, 57);
        price(0, 9, 99, 99, 198);
        SAID.is("price of one with kin", withKin(0).makerOf(0, 6), 50 + FEAR);
        SAID.says("HUSBAND 5 more for each of his KIN at HOME");
        price(1, 9, 50, 7, 57);
        NoneMayLeave x = withKin(1);
        SAID.is("price: two of five kin at home", x.makerOf(0, 6), 50 + FEAR + 10);
        x.deed(3, 2);
        x.ask(0, FEAR);
        SAID.is("price: three of five kin at home", x.makerOf(0, 6), 50 + FEAR + 15);
        x.kin(0, 1, false);
        SAID.is("price: two of four kin at home", x.makerOf(0, 6), 50 + FEAR + 10);
        NoneMayLeave seven = new NoneMayLeave();
        for (int m = 0; m < 8; m++) {
            seven.maker(1, 0, 99);
            seven.kin(0, m, true);
        }
        SAID.is("price: seven kin", seven.makerOf(0, 6), 99 + 35);
        SAID.is("price: one kin", seven.makerOf(7, 6), 99 + 5);
        SAID.says("FATHER that, and 3 times a more");
        price(3, 0, 50, 7, 57);
        price(3, 9, 50, 7, 57 + 27);
        SAID.is("price: two of five kin at home", withKin(3).makerOf(0, 6), 50 + FEAR + 10 + 12);
    }

    private static void otherPrices() {
        SAID.says("DOUBLE half of WANT (cut), and FEAR");
        price(2, 9, 50, 7, 32);
        price(2, 9, 51, 7, 32);
        price(2, 9, 1, 0, 0);
        price(2, 9, 99, 99, 148);
        SAID.is("price of one with kin", withKin(2).makerOf(0, 6), 25 + FEAR);
        SAID.says("SPY a, whatever else");
        price(5, 0, 99, 99, 0);
        price(5, 9, 0, 0, 9);
        SAID.is("price of one with kin", withKin(5).makerOf(0, 6), 4);
        SAID.says("FOUNDLING WANT less a (0 at least), and FEAR");
        price(4, 4, 50, 7, 53);
        price(4, 9, 9, 7, 7);
        price(4, 9, 8, 7, 7);
        price(4, 9, 0, 0, 0);
        price(4, 9, 10, 7, 8);
        SAID.is("price of one with kin", withKin(4).makerOf(0, 6), 46 + FEAR);
        SAID.says("BOY WANT less a (0 at least), and half of FEAR (cut).");
        price(6, 4, 50, 8, 50);
        price(6, 4, 50, 7, 49);
        price(6, 9, 8, 9, 4);
        price(6, 9, 0, 1, 0);
        price(6, 0, 99, 99, 148);
        SAID.is("price of one with kin", withKin(6).makerOf(0, 6), 46 + 4);
    }

    private static void bids() {
        SAID.says("BID b to a MAKER at HOME: he goes (ABROAD), if b is PRICE at least");
        NoneMayLeave x = oneOf(0, 0, 30, 0);
        SAID.is("bid(0, 29)", x.bid(0, 29), 0);
        SAID.is("makerOf(0, 5)", x.makerOf(0, 5), 0);
        SAID.is("status(6): nothing is paid", x.status(6), 100);
        SAID.is("bid(0, 30)", x.bid(0, 30), 1);
        SAID.is("makerOf(0, 5)", x.makerOf(0, 5), 1);
        NoneMayLeave free = oneOf(0, 0, 0, 0);
        SAID.is("bid(0, 0) of a price of 0", free.bid(0, 0), 1);
        SAID.says("PURSE is b less then.");
        SAID.is("status(6)", x.status(6), 70);
        SAID.is("status(6): 0 less", free.status(6), 100);
        NoneMayLeave y = oneOf(0, 0, 30, 0);
        SAID.is("bid(0, 45)", y.bid(0, 45), 1);
        SAID.is("status(6): b, not the price", y.status(6), 55);
        SAID.says("(What PURSE hasn't can't be bid.)");
        SAID.refused(() -> oneOf(0, 0, 30, 0), "bid(0, 101)", z -> z.bid(0, 101), -6);
        NoneMayLeave all = oneOf(0, 0, 30, 0);
        SAID.is("bid(0, 100)", all.bid(0, 100), 1);
        SAID.is("status(6)", all.status(6), 0);
    }

    private static void doubles() {
        SAID.says("A DOUBLE (SPY) ABROAD comes HOME when a MONTH passes, and KNOWS what all ABROAD KNEW.");
        NoneMayLeave x = new NoneMayLeave();
        int[] kinds = {0, 2, 5, 2, 1, 3, 4, 6};
        x.parts(8);
        for (int m = 0; m < 8; m++) {
            x.maker(kinds[m], 0, 0);
            x.knows(m, m, true);
        }
        for (int m : new int[] {0, 1, 2, 4, 5, 6, 7}) {
            x.bid(m, 0);
        }
        SAID.is("month()", x.month(), 2);
        for (int m = 0; m < 8; m++) {
            boolean isDouble = m == 1 || m == 2;
            SAID.is("makerOf(" + m + ", 5)", x.makerOf(m, 5), isDouble || m == 3 ? 0 : 1);
            SAID.is("makerOf(" + m + ", 3)", x.makerOf(m, 3), isDouble ? 255 - 8 : 1 << m);
        }
        NoneMayLeave shut = oneOf(2, 0, 0, 0);
        shut.deed(0, 0);
        SAID.is("month(): one who is shut up", shut.month(), 0);
        SAID.is("makerOf(0, 5)", shut.makerOf(0, 5), 2);
        NoneMayLeave dead = oneOf(2, 0, 0, 0);
        dead.bid(0, 0);
        dead.deed(0, 1);
        SAID.is("month(): one who is dead", dead.month(), 0);
        SAID.is("makerOf(0, 5)", dead.makerOf(0, 5), 3);
    }

    // ---- the council

    private static void letters() {
        SAID.says("The council: WRITE: by numbers, one after the other");
        // Two may come; the first draw calls, the second doesn't: so the first is the lower number.
        int seed = Drawn.seedFor(new int[] {100, 100}, new int[] {10, 60});
        NoneMayLeave x = Made.by("maker 2 0 0;maker 2 0 0;goes 0;goes 1;fear 50");
        x.seed(seed);
        SAID.is("write()", x.write(), 1);
        SAID.is("makerOf(0, 5)", x.makerOf(0, 5), 0);
        SAID.is("makerOf(1, 5)", x.makerOf(1, 5), 1);
        SAID.says("each ABROAD with KIN at HOME (or a DOUBLE) comes HOME");
        NoneMayLeave y = Made.by("maker 0 0 0;maker 0 0 0;maker 0 0 0;maker 2 0 0;maker 5 0 0;maker 1 0 0;maker 0 0 0",
            "kin 0 1;kin 2 5;kin 2 6;goes 0;goes 2;goes 3;goes 4;goes 5;dies 6;fear 99");
        int came = 0;
        int start = Drawn.seedFor(new int[] {100, 100, 100}, new int[] {98, 50, 0});
        y.seed(start);
        SAID.is("write()", y.write(), 3);
        int[] places = {0, 0, 1, 0, 0, 1, 3};
        for (int m = 0; m < 7; m++) {
            SAID.is("makerOf(" + m + ", 5)", y.makerOf(m, 5), places[m]);
            came += y.makerOf(m, 3);
        }
        SAID.is("by letters nobody hears anything", came, 0);
        SAID.is("status(5): it frightens nobody", y.status(5), 99);
        SAID.is("status(7): no month passes", y.status(7), 0);
        SAID.says("if a DRAW below 100 is below FEAR.");
        for (int drawn : new int[] {0, 1, 38, 97, 98}) {
            SAID.is("write(): draw and FEAR " + drawn, written(drawn, drawn), 0);
            SAID.is("write(): draw " + drawn + ", FEAR one more", written(drawn, drawn + 1), 1);
        }
        SAID.is("write(): draw 99, FEAR 99", written(99, 99), 0);
    }

    private static int written(int drawn, int fear) {
        NoneMayLeave x = oneOf(5, 0, 0, 0);
        x.bid(0, 0);
        x.ask(0, fear);
        x.seed(Drawn.seedFor(new int[] {100}, new int[] {drawn}));
        return x.write();
    }

    private static NoneMayLeave two(int fear) {
        NoneMayLeave x = Made.by("maker 0 0 0;maker 0 0 0");
        x.ask(0, fear);
        return x;
    }

    private static void shut() {
        SAID.says("SHUT a MAKER at HOME: he is SHUT up");
        NoneMayLeave x = two(0);
        SAID.is("deed(0, 0)", x.deed(0, 0), 5);
        SAID.is("makerOf(0, 5)", x.makerOf(0, 5), 2);
        SAID.is("makerOf(1, 5)", x.makerOf(1, 5), 0);
        SAID.refused(Made::rich, "shut one shut up", y -> y.deed(4, 0), -6);
        SAID.refused(Made::rich, "shut one abroad", y -> y.deed(5, 0), -6);
        SAID.refused(Made::rich, "shut one dead", y -> y.deed(6, 0), -6);
        SAID.says("FEAR is 5 more (99 at most).");
        int[] fears = {0, 93, 94, 95, 99};
        int[] due = {5, 98, 99, 99, 99};
        for (int i = 0; i < fears.length; i++) {
            NoneMayLeave y = two(fears[i]);
            SAID.is("deed(1, 0) by FEAR " + fears[i], y.deed(1, 0), due[i]);
            SAID.is("status(5)", y.status(5), due[i]);
        }
    }

    private static void kill() {
        SAID.says("KILL one ABROAD: he is DEAD");
        NoneMayLeave x = two(0);
        x.bid(0, 0);
        x.bid(1, 0);
        SAID.is("deed(1, 1)", x.deed(1, 1), 10);
        SAID.is("makerOf(1, 5)", x.makerOf(1, 5), 3);
        SAID.is("makerOf(0, 5)", x.makerOf(0, 5), 1);
        SAID.refused(Made::rich, "kill one at home", y -> y.deed(0, 1), -6);
        SAID.refused(Made::rich, "kill one shut up", y -> y.deed(4, 1), -6);
        SAID.refused(Made::rich, "kill one dead", y -> y.deed(6, 1), -6);
        SAID.says("FEAR is 10 more (99 at most).");
        int[] fears = {0, 88, 89, 90, 99};
        int[] due = {10, 98, 99, 99, 99};
        for (int i = 0; i < fears.length; i++) {
            NoneMayLeave y = two(0);
            y.bid(0, 0);
            y.ask(0, fears[i]);
            SAID.is("deed(0, 1) by FEAR " + fears[i], y.deed(0, 1), due[i]);
            SAID.is("status(5)", y.status(5), due[i]);
        }
    }

    private static void free() {
        SAID.says("FREE one SHUT up: HOME");
        NoneMayLeave x = two(0);
        x.deed(0, 0);
        x.deed(1, 0);
        SAID.is("deed(0, 2)", x.deed(0, 2), 5);
        SAID.is("makerOf(0, 5)", x.makerOf(0, 5), 0);
        SAID.is("makerOf(1, 5)", x.makerOf(1, 5), 2);
        SAID.refused(Made::rich, "free one at home", y -> y.deed(0, 2), -6);
        SAID.refused(Made::rich, "free one abroad", y -> y.deed(5, 2), -6);
        SAID.refused(Made::rich, "free one dead", y -> y.deed(6, 2), -6);
        SAID.says("FEAR 5 less (0 at least).");
        int[] fears = {99, 6, 5, 4, 0};
        int[] due = {94, 1, 0, 0, 0};
        for (int i = 0; i < fears.length; i++) {
            NoneMayLeave y = two(0);
            y.deed(0, 0);
            y.ask(0, fears[i]);
            SAID.is("deed(0, 2) by FEAR " + fears[i], y.deed(0, 2), due[i]);
            SAID.is("status(5)", y.status(5), due[i]);
        }
    }

    private static void months() {
        SAID.says("MADE at a set: together they KNOW all PARTS.");
        NoneMayLeave x = Made.plain(5, new int[] {0, 0, 0}, new int[] {1 | 2, 2 | 4 | 8, 16});
        x.bid(0, 0);
        x.bid(1, 0);
        SAID.is("abroad(0): all but one", x.abroad(0), 0);
        x.bid(2, 0);
        SAID.is("abroad(0): all", x.abroad(0), 1);
        x.parts(6);
        SAID.is("abroad(0): of one more", x.abroad(0), 0);
        SAID.says("A MONTH: those DOUBLES ABROAD come HOME as told");
        NoneMayLeave y = Made.by("maker 2 0 0;maker 5 0 0;maker 0 0 0;goes 0;goes 1;goes 2");
        SAID.is("month()", y.month(), 2);
        SAID.is("status(3)", y.status(3), 1);
        SAID.says("FEAR is 1 less (0 at least)");
        int[] fears = {99, 2, 1, 0};
        int[] due = {98, 1, 0, 0};
        for (int i = 0; i < fears.length; i++) {
            NoneMayLeave z = two(fears[i]);
            z.month();
            SAID.is("status(5) a month behind " + fears[i], z.status(5), due[i]);
        }
        SAID.says("MONTHS 1 more.");
        NoneMayLeave z = two(0);
        for (int months = 1; months <= 400; months++) {
            z.month();
            SAID.is("status(7)", months % 50 == 0 ? z.status(7) : months, months);
        }
    }
}
