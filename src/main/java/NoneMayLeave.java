/**
 * Glassmakers of one island, a court that bids for them and a council that holds them.
 * The words in capitals are those of the document.
 */
public final class NoneMayLeave {
    public static final int NONE = -1;

    private static final int NOBODY = -1;
    private static final int OTHER = -2;
    private static final int NOTHING = -3;
    private static final int BELOW = -4;
    private static final int BEYOND = -5;
    private static final int WRONG = -6;
    private static final int ROOM = -7;
    private static final int REFUSALS = 8;
    /** Where an answer could be mistaken for a refusal, the refusal's number is less by this. */
    private static final int FAR = 10;

    private static final int SHELVES = 8;
    private static final int LONGEST_ROW = 160;
    private static final int MOST_MAKERS = 8;
    private static final int MOST_PARTS = 8;
    private static final int GREATEST_A = 9;
    private static final int GREATEST_WANT = 99;
    private static final int GREATEST_FEAR = 99;
    private static final int GREATEST_PURSE = 9999;
    private static final int GREATEST_K = 8;
    private static final int GREATEST_OFFER = 999;
    private static final int GREATEST_KEY = 7;
    private static final int GREATEST_WEIGHT = 99;
    private static final int MOST_COUNCIL_MOVES = 2;
    private static final int MOST_TOLD = 40;
    private static final int MOST_YEARS = 240;

    private static final int BYTES = 0;
    private static final int SHORTS = 1;
    private static final int INTS = 2;
    private static final int LONGS = 3;

    private static final int MAKER = 0;
    private static final int HUSBAND = 1;
    private static final int DOUBLE = 2;
    private static final int FATHER = 3;
    private static final int FOUNDLING = 4;
    private static final int SPY = 5;
    private static final int BOY = 6;
    private static final int KINDS = 7;
    /** By KINDS, the KIND above each. */
    private static final int[] ABOVE = {NONE, MAKER, MAKER, HUSBAND, MAKER, DOUBLE, FOUNDLING};

    private static final int HOME = 0;
    private static final int ABROAD = 1;
    private static final int SHUT_UP = 2;
    private static final int DEAD = 3;

    /** Deeds by numbers: SHUT, KILL, FREE. */
    private static final int DEEDS = 3;
    private static final int KILL = 1;
    /** By deeds: where one must be for it, where he is then, and by how much FEAR grows. */
    private static final int[] DEED_FROM = {HOME, ABROAD, SHUT_UP};
    private static final int[] DEED_TO = {SHUT_UP, DEAD, HOME};
    private static final int[] DEED_FEAR = {5, 10, -5};

    private static final int BLOWS = 0;
    private static final int SELLS = 1;
    private static final int HIDES = 2;
    private static final int MOVES = 3;

    private final Shelf[] shelves = new Shelf[SHELVES];
    private final Island now = new Island();
    private final Island imaged = new Island();
    /** MONTHS that are told, but not or not yet true, are tried on this one. */
    private final Island trial = new Island();
    private final Sets sets = new Sets();
    private final Council sitting = new Council();
    private final TextReader reader = new TextReader();
    private final Mover mover = new Mover();
    private final int[] refused = new int[REFUSALS];
    private boolean hasImage = false;
    private int latestFault = NONE;

    public NoneMayLeave() {
        for (int s = 0; s < SHELVES; s++) {
            shelves[s] = new Shelf();
        }
    }

    // ---- shelves and rows

    public int row(int s, int sort, int n) {
        if (!isShelf(s)) {
            return refuse(NOBODY);
        }
        if (n < 0) {
            return refuse(BELOW);
        }
        if (sort < BYTES || sort > LONGS) {
            return refuse(WRONG);
        }
        if (n > LONGEST_ROW) {
            return refuse(ROOM);
        }
        shelves[s].holdRow(sort, n);
        return 1;
    }

    public int set(int s, int i, long v) {
        int no = checkRow(s);
        if (no == 0 && !shelves[s].has(i)) {
            no = BEYOND;
        }
        if (no != 0) {
            return refuse(no);
        }
        shelves[s].put(i, v);
        return 1;
    }

    public int copy(int p, int q, int i, int j, int n) {
        int no = checkTwoRows(p, q, true);
        if (no == 0 && n < 0) {
            no = BELOW;
        }
        if (no == 0 && !(shelves[p].hasAll(i, n) && shelves[q].hasAll(j, n))) {
            no = BEYOND;
        }
        if (no != 0) {
            return refuse(no);
        }
        shelves[q].take(shelves[p], i, j, n);
        return 1;
    }

    public long element(int s, int i) {
        return isShelf(s) ? shelves[s].at(i) : 0L;
    }

    public int show(int s, int maker) {
        if (!isShelf(s) || (maker != NONE && !now.isMaker(maker))) {
            return refuse(NOBODY);
        }
        if (maker == NONE) {
            shelves[s].holdNothing();
            return 0;
        }
        shelves[s].holdMaker(maker);
        return 1;
    }

    public int holds(int s) {
        if (!isShelf(s)) {
            return NONE;
        }
        return shelves[s].told();
    }

    public int says(int s, int kind) {
        if (!isShelf(s) || !isKind(kind)) {
            return refuse(NOBODY);
        }
        if (shelves[s].isRow()) {
            return refuse(OTHER);
        }
        if (shelves[s].isEmpty()) {
            return refuse(NOTHING);
        }
        int m = shelves[s].whose();
        if (!isUnder(now.kindOf(m), kind)) {
            return refuse(OTHER);
        }
        return now.wordOf(m, kind);
    }

    // ---- the island

    public int maker(int kind, int a, int want) {
        if (!isKind(kind)) {
            return refuse(NOBODY);
        }
        if (!isWithin(a, 0, GREATEST_A) || !isWithin(want, 0, GREATEST_WANT)) {
            return refuse(WRONG);
        }
        if (now.isFull()) {
            return refuse(ROOM);
        }
        return now.addMaker(kind, a, want);
    }

    public int parts(int n) {
        if (!isWithin(n, now.parts, MOST_PARTS)) {
            return refuse(WRONG);
        }
        int were = now.parts;
        now.parts = n;
        return were;
    }

    public int knows(int maker, int part, boolean is) {
        if (!now.isMaker(maker)) {
            return refuse(NOBODY);
        }
        if (!now.isPart(part)) {
            return refuse(WRONG);
        }
        return now.learn(maker, part, is) ? 1 : 0;
    }

    public int kin(int maker, int other, boolean are) {
        if (!now.isMaker(maker) || !now.isMaker(other)) {
            return refuse(NOBODY);
        }
        if (maker == other) {
            return refuse(WRONG);
        }
        return now.join(maker, other, are) ? 1 : 0;
    }

    public int ask(int what, int v) {
        if (what == 0 && isWithin(v, 0, GREATEST_FEAR)) {
            int was = now.fear;
            now.fear = v;
            return was;
        }
        if (what == 1 && isWithin(v, 0, GREATEST_PURSE)) {
            int was = now.purse;
            now.purse = v;
            return was;
        }
        return refuse(WRONG);
    }

    public int makerOf(int maker, int what) {
        if (!now.isMaker(maker) || !isWithin(what, 0, 6)) {
            return refuse(BEYOND);
        }
        return now.aspectOf(maker, what);
    }

    public int island(int s) {
        int no = checkRow(s);
        if (no != 0) {
            return refuse(no);
        }
        latestFault = reader.readAll(shelves[s], now);
        if (latestFault != NONE) {
            return refuse(WRONG);
        }
        now.become(reader.told);
        return reader.items;
    }

    public int fault() {
        return latestFault;
    }

    // ---- what comes of it

    public int abroad(int what) {
        if (what == 0) {
            return now.isMadeAbroad() ? 1 : 0;
        }
        if (what == 1) {
            return now.allParts() & ~now.knownAbroad();
        }
        return refuse(BEYOND);
    }

    public int fewest() {
        sets.layOut(now, now.thoseAt(HOME));
        return sets.fewestThatMake(now.knownAbroad(), now.allParts());
    }

    public int cheapest(int what) {
        if (!isWithin(what, 0, 2)) {
            return refuseFar(BEYOND);
        }
        sets.layOut(now, now.thoseAt(HOME));
        int i = sets.cheapestThatMakes(now.knownAbroad(), now.allParts());
        if (what == 0) {
            return i == NONE ? NONE : sets.bitsOf(i);
        }
        if (what == 1) {
            return i == NONE ? NONE : sets.costOf(i);
        }
        return i != NONE && sets.costOf(i) <= now.purse ? 1 : 0;
    }

    public int alone(int what) {
        if (!isWithin(what, 0, 1)) {
            return refuseFar(BEYOND);
        }
        int parts = now.knownToOne();
        return what == 0 ? parts : now.firstWhoKnowsMost(parts);
    }

    public int without(int k) {
        if (!isWithin(k, 0, GREATEST_K)) {
            return refuse(WRONG);
        }
        return now.fewestAtHomeForAPart() > k ? 1 : 0;
    }

    public int sold(int k) {
        if (!isWithin(k, 1, GREATEST_K)) {
            return refuse(WRONG);
        }
        sets.layOut(now, now.thoseAlive());
        return sets.anyMakes(k, now.allParts()) ? 1 : 0;
    }

    public int stands() {
        // One less than are at HOME for the rarest PART; if that one is lost already, it is NONE.
        return now.fewestAtHomeForAPart() - 1;
    }

    public int lessons(int k) {
        if (!isWithin(k, 0, GREATEST_K)) {
            return refuseFar(WRONG);
        }
        return now.lessonsFor(k + 1);
    }

    public int offer(int b) {
        if (!isWithin(b, 0, GREATEST_OFFER)) {
            return refuse(WRONG);
        }
        return now.whoGoesFor(b);
    }

    public int spend() {
        sets.layOut(now, now.thoseAt(HOME));
        return sets.bestFor(now.purse, now.knownAbroad());
    }

    public int council(int m, int i) {
        if (!isWithin(m, 0, MOST_COUNCIL_MOVES)) {
            return refuse(WRONG);
        }
        if (i != NONE && !isWithin(i, 0, m - 1)) {
            return refuse(BEYOND);
        }
        sitting.weigh(now, m, sets);
        return i == NONE ? sitting.cost : i == 0 ? sitting.firstMove : sitting.secondMove;
    }

    // ---- letters, recipes and what is told

    public int letter(int s, int n, int key) {
        int no = checkFirst(s, n);
        if (no == 0 && !(isWithin(key, 0, GREATEST_KEY) && isLetter(shelves[s], n))) {
            no = WRONG;
        }
        if (no != 0) {
            return refuse(no);
        }
        return partsTold(shelves[s], n, key);
    }

    public int keys(int s, int n, int set) {
        int no = checkFirst(s, n);
        if (no == 0 && !(now.areParts(set) && isLetter(shelves[s], n))) {
            no = WRONG;
        }
        if (no != 0) {
            return refuse(no);
        }
        int fit = 0;
        for (int key = 0; key <= GREATEST_KEY; key++) {
            if (partsTold(shelves[s], n, key) == set) {
                fit |= 1 << key;
            }
        }
        return fit;
    }

    public int tries(int s, int i) {
        int no = checkRow(s);
        if (no == 0 && (now.parts > shelves[s].size || (i != NONE && !now.isPart(i)))) {
            no = BEYOND;
        }
        if (no == 0 && !areWeights(shelves[s], now.parts)) {
            no = WRONG;
        }
        if (no != 0) {
            return refuse(no);
        }
        return i == NONE ? triesOnTheMean(shelves[s], now.parts) : triedAt(shelves[s], now.parts, i);
    }

    public int who(int s, int t, int n) {
        int no = checkTwoRows(s, t, false);
        if (no == 0 && n < 0) {
            no = BELOW;
        }
        if (no == 0 && (n > shelves[s].size || n > shelves[t].size)) {
            no = BEYOND;
        }
        if (no == 0 && !(isWithin(n, 1, MOST_TOLD) && areSets(shelves[s], n))) {
            no = WRONG;
        }
        if (no != 0) {
            return refuse(no);
        }
        return whoMayHaveKnown(shelves[s], shelves[t], n);
    }

    public int judge(int s, int n) {
        int no = checkTold(s, n);
        if (no != 0) {
            return refuseFar(no);
        }
        return tryMonths(shelves[s], n);
    }

    public int behind(int s, int n, int what) {
        int no = checkTold(s, n);
        if ((no == 0 || no == WRONG) && !isWithin(what, 0, 2)) {
            no = BEYOND;
        }
        if (no == 0 && tryMonths(shelves[s], n) != NONE) {
            no = WRONG;
        }
        if (no != 0) {
            return refuse(no);
        }
        if (what == 0) {
            return trial.isMadeAbroad() ? 1 : 0;
        }
        return what == 1 ? trial.purse : trial.fear;
    }

    public int done(int s, int n) {
        int no = checkTold(s, n);
        if (no == 0 && tryMonths(shelves[s], n) != NONE) {
            no = WRONG;
        }
        if (no != 0) {
            return refuse(no);
        }
        now.become(trial);
        return now.months;
    }

    // ---- in truth

    public int bid(int maker, int b) {
        if (!now.isMaker(maker)) {
            return refuse(NOBODY);
        }
        if (!now.canBeBid(maker, b)) {
            return refuse(WRONG);
        }
        return now.takeBid(maker, b) ? 1 : 0;
    }

    public int deed(int maker, int what) {
        if (!now.isMaker(maker)) {
            return refuse(NOBODY);
        }
        if (!isWithin(what, 0, DEEDS - 1)) {
            return refuse(BEYOND);
        }
        if (!now.canSuffer(maker, what)) {
            return refuse(WRONG);
        }
        now.suffer(maker, what);
        return now.fear;
    }

    public int write() {
        return now.sendLetters();
    }

    public int month() {
        return now.passMonth();
    }

    public int years(int n) {
        if (now.count == 0) {
            return refuse(BEYOND);
        }
        if (!isWithin(n, 1, MOST_YEARS)) {
            return refuse(WRONG);
        }
        int made = 0;
        for (int i = 0; i < n; i++) {
            now.passMonthByDraws();
            if (now.isMadeAbroad()) {
                made++;
            }
        }
        return made;
    }

    public int seed(int v) {
        int was = now.seed;
        now.seed = v;
        return was;
    }

    // ---- moves

    public int act(int maker, int move, int x) {
        return mover.begin(now, maker, move, x);
    }

    public int trace(int i) {
        return mover.bodyAt(i);
    }

    // ---- the image and the counts

    public int image() {
        imaged.become(now);
        hasImage = true;
        return now.count;
    }

    public int restore() {
        if (!hasImage) {
            return refuse(WRONG);
        }
        now.become(imaged);
        for (int s = 0; s < SHELVES; s++) {
            if (shelves[s].isMaker() && !now.isMaker(shelves[s].whose())) {
                shelves[s].holdNothing();
            }
        }
        return now.count;
    }

    public int status(int what) {
        switch (what) {
            case 0:
                return now.count;
            case 1:
                return now.parts;
            case 2:
                return Integer.bitCount(now.thoseAt(HOME));
            case 3:
                return Integer.bitCount(now.thoseAt(ABROAD));
            case 4:
                return Integer.bitCount(now.thoseAt(DEAD));
            case 5:
                return now.fear;
            case 6:
                return now.purse;
            case 7:
                return now.months;
            case 8:
                return now.seed;
            case 9:
                return mover.ran;
            default:
                return isWithin(what, FAR + 1, FAR - ROOM) ? refused[what - FAR] : NONE;
        }
    }

    // ---- refusals

    private int refuse(int no) {
        int i = -no;
        if (i > 0 && i < REFUSALS) {
            refused[i]++;
        }
        return no;
    }

    private int refuseFar(int no) {
        return refuse(no) - FAR;
    }

    /** 0, or why SHELF s isn't one with a ROW. */
    private int checkRow(int s) {
        if (!isShelf(s)) {
            return NOBODY;
        }
        if (shelves[s].isMaker()) {
            return OTHER;
        }
        return shelves[s].isEmpty() ? NOTHING : 0;
    }

    /** 0, or why SHELF s has no ROW of n elements or more. */
    private int checkFirst(int s, int n) {
        int no = checkRow(s);
        if (no != 0) {
            return no;
        }
        if (n < 0) {
            return BELOW;
        }
        return n > shelves[s].size ? BEYOND : 0;
    }

    /** 0, or why SHELF s has no n numbers by which MONTHS could be told. */
    private int checkTold(int s, int n) {
        int no = checkFirst(s, n);
        return no == 0 && n > MOST_TOLD ? WRONG : no;
    }

    /** 0, or why SHELVES p and q aren't two with ROWS (if alike: of one SORT). */
    private int checkTwoRows(int p, int q, boolean alike) {
        if (!isShelf(p) || !isShelf(q)) {
            return NOBODY;
        }
        if (shelves[p].isMaker() || shelves[q].isMaker()) {
            return OTHER;
        }
        if (shelves[p].isEmpty() || shelves[q].isEmpty()) {
            return NOTHING;
        }
        return alike && shelves[p].sort != shelves[q].sort ? OTHER : 0;
    }

    private static boolean isShelf(int s) {
        return s >= 0 && s < SHELVES;
    }

    private static boolean isKind(int kind) {
        return kind >= 0 && kind < KINDS;
    }

    private static boolean isWithin(int v, int least, int most) {
        return v >= least && v <= most;
    }

    private static int kindAbove(int kind) {
        return isKind(kind) ? ABOVE[kind] : NONE;
    }

    /** Whether a KIND is another one, or under it. */
    private static boolean isUnder(int kind, int other) {
        int k = kind;
        for (int i = 0; i < KINDS && k != NONE; i++) {
            if (k == other) {
                return true;
            }
            k = kindAbove(k);
        }
        return false;
    }

    // ---- letters

    private static boolean isLetter(Shelf row, int n) {
        return n <= MOST_TOLD && row.areWithin(n, 0, GREATEST_KEY);
    }

    private int partsTold(Shelf row, int n, int key) {
        int told = 0;
        for (int i = 0; i < n; i++) {
            int part = (row.number(i) + key) & 7;
            if (now.isPart(part)) {
                told |= 1 << part;
            }
        }
        return told;
    }

    // ---- recipes that lack a part

    private static boolean areWeights(Shelf row, int parts) {
        return row.areWithin(parts, 0, GREATEST_WEIGHT) && allWeights(row, parts) > 0;
    }

    private static int allWeights(Shelf row, int parts) {
        int all = 0;
        for (int p = 0; p < parts; p++) {
            all += row.number(p);
        }
        return all;
    }

    /** The place (1 on) of a PART in the best order: how many come ahead of it, and 1. */
    private static int placeOf(Shelf row, int parts, int part) {
        int place = 1;
        int weight = row.number(part);
        for (int p = 0; p < parts; p++) {
            int w = row.number(p);
            if (w > weight || (w == weight && p < part)) {
                place++;
            }
        }
        return place;
    }

    private static int triesOnTheMean(Shelf row, int parts) {
        int sum = 0;
        for (int p = 0; p < parts; p++) {
            sum += row.number(p) * placeOf(row, parts, p);
        }
        int all = allWeights(row, parts);
        return all > 0 ? sum * 1000 / all : 0;
    }

    private static int triedAt(Shelf row, int parts, int i) {
        for (int p = 0; p < parts; p++) {
            if (placeOf(row, parts, p) == i + 1) {
                return p;
            }
        }
        return NONE;
    }

    // ---- who it was

    private boolean areSets(Shelf row, int n) {
        for (int i = 0; i < n; i++) {
            if ((row.number(i) & ~now.everyone()) != 0) {
                return false;
            }
        }
        return true;
    }

    private int whoMayHaveKnown(Shelf told, Shelf made, int n) {
        int people = now.everyone();
        for (int i = 0; i < n; i++) {
            int those = told.number(i);
            people &= made.number(i) != 0 ? those : ~those;
        }
        return people;
    }

    // ---- told months

    /** The first of n told numbers that can't be; NONE: then the trial island stands behind them all. */
    private int tryMonths(Shelf row, int n) {
        trial.become(now);
        for (int i = 0; i < n; i++) {
            if (!trial.comesTrue(row.number(i))) {
                return i;
            }
        }
        return NONE;
    }

    /** A SHELF with what it holds; its elements are made once and used for every ROW that it comes to hold. */
    private static final class Shelf {
        private static final int HOLDS_NOTHING = 0;
        private static final int HOLDS_ROW = 1;
        private static final int HOLDS_MAKER = 2;

        private final long[] elements = new long[LONGEST_ROW];
        private int held = HOLDS_NOTHING;
        private int sort = BYTES;
        private int size = 0;
        private int who = NONE;

        void holdNothing() {
            held = HOLDS_NOTHING;
            size = 0;
            who = NONE;
        }

        void holdMaker(int m) {
            held = HOLDS_MAKER;
            size = 0;
            who = m;
        }

        void holdRow(int ofSort, int n) {
            held = HOLDS_ROW;
            sort = ofSort;
            size = Math.max(0, Math.min(n, LONGEST_ROW));
            who = NONE;
            for (int i = 0; i < size; i++) {
                elements[i] = 0L;
            }
        }

        boolean isEmpty() {
            return held == HOLDS_NOTHING;
        }

        boolean isRow() {
            return held == HOLDS_ROW;
        }

        boolean isMaker() {
            return held == HOLDS_MAKER;
        }

        int whose() {
            return who;
        }

        int told() {
            if (held == HOLDS_ROW) {
                return 100 + sort;
            }
            return who;
        }

        boolean has(int i) {
            return i >= 0 && i < size;
        }

        boolean hasAll(int i, int n) {
            return i >= 0 && n >= 0 && i <= size - n;
        }

        void put(int i, long v) {
            if (!has(i)) {
                return;
            }
            switch (sort) {
                case BYTES:
                    elements[i] = (byte) v;
                    break;
                case SHORTS:
                    elements[i] = (short) v;
                    break;
                case INTS:
                    elements[i] = (int) v;
                    break;
                default:
                    elements[i] = v;
                    break;
            }
        }

        void take(Shelf from, int i, int j, int n) {
            if (from.hasAll(i, n) && hasAll(j, n)) {
                System.arraycopy(from.elements, i, elements, j, n);
            }
        }

        long at(int i) {
            return i >= 0 && i < size ? elements[i] : 0L;
        }

        /** An element as it counts where a ROW tells something. */
        int number(int i) {
            return i >= 0 && i < size ? (int) elements[i] : 0;
        }

        /** Whether the first n elements, as numbers, are all from least to most. */
        boolean areWithin(int n, int least, int most) {
            for (int i = 0; i < n; i++) {
                if (!isWithin(number(i), least, most)) {
                    return false;
                }
            }
            return true;
        }
    }

    /** THE ISLAND: all that THE IMAGE keeps. */
    private static final class Island {
        private final int[] kinds = new int[MOST_MAKERS];
        private final int[] as = new int[MOST_MAKERS];
        private final int[] wants = new int[MOST_MAKERS];
        private final int[] known = new int[MOST_MAKERS];
        private final int[] kinOf = new int[MOST_MAKERS];
        private final int[] places = new int[MOST_MAKERS];
        private int count = 0;
        private int parts = 4;
        private int fear = 0;
        private int purse = 100;
        private int months = 0;
        private int seed = 1;

        void become(Island other) {
            System.arraycopy(other.kinds, 0, kinds, 0, MOST_MAKERS);
            System.arraycopy(other.as, 0, as, 0, MOST_MAKERS);
            System.arraycopy(other.wants, 0, wants, 0, MOST_MAKERS);
            System.arraycopy(other.known, 0, known, 0, MOST_MAKERS);
            System.arraycopy(other.kinOf, 0, kinOf, 0, MOST_MAKERS);
            System.arraycopy(other.places, 0, places, 0, MOST_MAKERS);
            count = other.count;
            parts = other.parts;
            fear = other.fear;
            purse = other.purse;
            months = other.months;
            seed = other.seed;
        }

        // -- makers and parts

        boolean isMaker(int m) {
            return m >= 0 && m < count && m < MOST_MAKERS;
        }

        boolean isFull() {
            return count >= MOST_MAKERS;
        }

        boolean isPart(int p) {
            return p >= 0 && p < parts;
        }

        int allParts() {
            return (1 << parts) - 1;
        }

        boolean areParts(int bits) {
            return (bits & ~allParts()) == 0;
        }

        int everyone() {
            return (1 << count) - 1;
        }

        int addMaker(int kind, int a, int want) {
            int m = count;
            if (m < 0 || m >= MOST_MAKERS) {
                return NONE;
            }
            kinds[m] = kind;
            as[m] = a;
            wants[m] = want;
            known[m] = 0;
            kinOf[m] = 0;
            places[m] = HOME;
            count = m + 1;
            return m;
        }

        /** A MAKER KNOWS a PART, or doesn't; whether he did. */
        boolean learn(int m, int p, boolean is) {
            if (!isMaker(m) || !isPart(p)) {
                return false;
            }
            int bit = 1 << p;
            boolean did = (known[m] & bit) != 0;
            known[m] = is ? known[m] | bit : known[m] & ~bit;
            return did;
        }

        /** Two MAKERS are KIN, or aren't; whether they were. */
        boolean join(int m, int l, boolean are) {
            if (!isMaker(m) || !isMaker(l)) {
                return false;
            }
            boolean were = (kinOf[m] & 1 << l) != 0;
            kinOf[m] = are ? kinOf[m] | 1 << l : kinOf[m] & ~(1 << l);
            kinOf[l] = are ? kinOf[l] | 1 << m : kinOf[l] & ~(1 << m);
            return were;
        }

        int kindOf(int m) {
            return isMaker(m) ? kinds[m] : NONE;
        }

        int aOf(int m) {
            return isMaker(m) ? as[m] : 0;
        }

        boolean isAt(int m, int place) {
            return m >= 0 && m < count && m < MOST_MAKERS && places[m] == place;
        }

        void moveTo(int m, int place) {
            if (isMaker(m)) {
                places[m] = place;
            }
        }

        int aspectOf(int m, int what) {
            if (!isMaker(m)) {
                return NONE;
            }
            switch (what) {
                case 0:
                    return kinds[m];
                case 1:
                    return as[m];
                case 2:
                    return wants[m];
                case 3:
                    return known[m];
                case 4:
                    return kinOf[m];
                case 5:
                    return places[m];
                default:
                    return priceOf(m);
            }
        }

        /** What a MAKER, taken for one of a KIND that he is of or under, says. */
        int wordOf(int m, int kind) {
            if (!isMaker(m)) {
                return NONE;
            }
            if (isUnder(kind, HUSBAND)) {
                return kinAtHome(m);
            }
            if (isUnder(kind, DOUBLE)) {
                return isAt(m, ABROAD) ? 1 : 0;
            }
            return isUnder(kind, FOUNDLING) ? priceOf(m) : wants[m];
        }

        // -- where they are and what they know

        int thoseAt(int place) {
            int bits = 0;
            for (int m = 0; m < MOST_MAKERS; m++) {
                if (isAt(m, place)) {
                    bits |= 1 << m;
                }
            }
            return bits;
        }

        int thoseAlive() {
            return everyone() & ~thoseAt(DEAD);
        }

        int knownAbroad() {
            int bits = 0;
            for (int m = 0; m < MOST_MAKERS; m++) {
                if (isAt(m, ABROAD)) {
                    bits |= known[m];
                }
            }
            return bits;
        }

        boolean isMadeAbroad() {
            return knownAbroad() == allParts();
        }

        /** How many of some MAKERS (bits) KNOW a PART. */
        int whoKnow(int those, int part) {
            int n = 0;
            for (int m = 0; m < MOST_MAKERS; m++) {
                if ((those & 1 << m) != 0 && (known[m] & 1 << part) != 0) {
                    n++;
                }
            }
            return n;
        }

        int knownToOne() {
            int alive = thoseAlive();
            int bits = 0;
            for (int p = 0; p < parts; p++) {
                if (whoKnow(alive, p) == 1) {
                    bits |= 1 << p;
                }
            }
            return bits;
        }

        /** Who of those alive KNOWS most of some PARTS, of several the first; NONE if nobody KNOWS any. */
        int firstWhoKnowsMost(int some) {
            int best = NONE;
            int most = 0;
            for (int m = 0; m < MOST_MAKERS; m++) {
                int n = Integer.bitCount(known[m] & some);
                if (isMaker(m) && places[m] != DEAD && n > most) {
                    most = n;
                    best = m;
                }
            }
            return best;
        }

        /** By how many at HOME that PART is KNOWN which fewest there KNOW: WITHOUT k holds below this. */
        int fewestAtHomeForAPart() {
            int home = thoseAt(HOME);
            int least = MOST_MAKERS;
            for (int p = 0; p < parts; p++) {
                least = Math.min(least, whoKnow(home, p));
            }
            return least;
        }

        /** How few LESSONS until each PART is KNOWN to so many at HOME; NONE: that can't be. */
        int lessonsFor(int many) {
            int home = thoseAt(HOME);
            if (Integer.bitCount(home) < many) {
                return NONE;
            }
            int lessons = 0;
            for (int p = 0; p < parts; p++) {
                int n = whoKnow(home, p);
                if (n == 0) {
                    return NONE;
                }
                lessons += Math.max(0, many - n);
            }
            return lessons;
        }

        // -- prices and bids

        int kinAtHome(int m) {
            int kin = isMaker(m) ? kinOf[m] : 0;
            int n = 0;
            for (int l = 0; l < MOST_MAKERS; l++) {
                if ((kin & 1 << l) != 0 && isAt(l, HOME)) {
                    n++;
                }
            }
            return n;
        }

        int priceOf(int m) {
            if (!isMaker(m)) {
                return 0;
            }
            switch (kinds[m]) {
                case HUSBAND:
                    return wants[m] + fear + 5 * kinAtHome(m);
                case FATHER:
                    return wants[m] + fear + 5 * kinAtHome(m) + 3 * as[m];
                case DOUBLE:
                    return wants[m] / 2 + fear;
                case SPY:
                    return as[m];
                case FOUNDLING:
                    return Math.max(0, wants[m] - as[m]) + fear;
                case BOY:
                    return Math.max(0, wants[m] - as[m]) + fear / 2;
                default:
                    return wants[m] + fear;
            }
        }

        int whoGoesFor(int b) {
            int bits = 0;
            for (int m = 0; m < MOST_MAKERS; m++) {
                if (isAt(m, HOME) && b >= priceOf(m)) {
                    bits |= 1 << m;
                }
            }
            return bits;
        }

        boolean canBeBid(int m, int b) {
            return isAt(m, HOME) && b >= 0 && b <= purse;
        }

        /** A BID that can be; whether he goes. */
        boolean takeBid(int m, int b) {
            if (!canBeBid(m, b) || b < priceOf(m)) {
                return false;
            }
            moveTo(m, ABROAD);
            purse -= b;
            return true;
        }

        // -- the council

        boolean canSuffer(int m, int deed) {
            return deed >= 0 && deed < DEEDS && isAt(m, DEED_FROM[deed]);
        }

        /** A deed is done, if it can be; whether it could. */
        boolean suffer(int m, int deed) {
            if (deed < 0 || deed >= DEEDS || !isAt(m, DEED_FROM[deed])) {
                return false;
            }
            moveTo(m, DEED_TO[deed]);
            fear = Math.max(0, Math.min(GREATEST_FEAR, fear + DEED_FEAR[deed]));
            return true;
        }

        int sendLetters() {
            int came = 0;
            for (int m = 0; m < MOST_MAKERS; m++) {
                boolean may = isAt(m, ABROAD) && (kinAtHome(m) > 0 || isUnder(kinds[m], DOUBLE));
                if (may && draw(100) < fear) {
                    moveTo(m, HOME);
                    came++;
                }
            }
            return came;
        }

        // -- months

        int passMonth() {
            int heard = knownAbroad();
            int came = 0;
            for (int m = 0; m < MOST_MAKERS; m++) {
                if (isAt(m, ABROAD) && isUnder(kinds[m], DOUBLE)) {
                    moveTo(m, HOME);
                    known[m] |= heard;
                    came++;
                }
            }
            fear = Math.max(0, fear - 1);
            months++;
            return came;
        }

        void passMonthByDraws() {
            int what = draw(4);
            if (what == 0) {
                int m = draw(count);
                takeBid(m, priceOf(m));
            } else if (what == 1) {
                sendLetters();
            } else if (what == 2) {
                suffer(draw(count), KILL);
            }
            passMonth();
        }

        /** A told number is done, if it can be; whether it could. */
        boolean comesTrue(int number) {
            if (number == 0) {
                passMonth();
                return true;
            }
            if (number < 100) {
                return false;
            }
            int m = number % 100;
            int what = number / 100;
            if (what == 1) {
                return takeBid(m, priceOf(m));
            }
            return suffer(m, what - 2);
        }

        int draw(int n) {
            seed = seed * 1103515245 + 12345;
            return n > 0 ? (seed >>> 16) % n : 0;
        }
    }

    /** All sets of some MAKERS, the least as bits first, each with its PRICE and the PARTS that it KNOWS. */
    private static final class Sets {
        private static final int MOST_SETS = 1 << MOST_MAKERS;

        private final int[] bits = new int[MOST_SETS];
        private final int[] costs = new int[MOST_SETS];
        private final int[] knowing = new int[MOST_SETS];
        private int many = 1;

        void layOut(Island island, int those) {
            many = 1;
            for (int m = 0; m < MOST_MAKERS; m++) {
                if ((those & 1 << m) != 0 && island.isMaker(m)) {
                    addMaker(m, island.priceOf(m), island.known[m]);
                }
            }
        }

        /** Behind the sets there are, the same ones with m: so they stay in the order of their bits. */
        private void addMaker(int m, int price, int knows) {
            int had = many;
            if (had * 2 > MOST_SETS) {
                return;
            }
            for (int i = 0; i < had; i++) {
                bits[had + i] = bits[i] | 1 << m;
                costs[had + i] = costs[i] + price;
                knowing[had + i] = knowing[i] | knows;
            }
            many = had * 2;
        }

        int bitsOf(int i) {
            return i >= 0 && i < many ? bits[i] : 0;
        }

        int costOf(int i) {
            return i >= 0 && i < many ? costs[i] : 0;
        }

        /** The smallest set (bits) that KNOWS all with what others KNOW; NONE. */
        int fewestThatMake(int others, int all) {
            int best = NONE;
            int least = MOST_MAKERS + 1;
            for (int i = 0; i < many; i++) {
                int n = Integer.bitCount(bits[i]);
                if ((knowing[i] | others) == all && n < least) {
                    least = n;
                    best = bits[i];
                }
            }
            return best;
        }

        /** Which of the sets is the cheapest that KNOWS all with what others KNOW; NONE. */
        int cheapestThatMakes(int others, int all) {
            int best = NONE;
            for (int i = 0; i < many; i++) {
                boolean makes = (knowing[i] | others) == all;
                if (makes && (best == NONE || costs[i] < costs[best])) {
                    best = i;
                }
            }
            return best;
        }

        boolean anyMakes(int k, int all) {
            for (int i = 0; i < many; i++) {
                if (knowing[i] == all && Integer.bitCount(bits[i]) <= k) {
                    return true;
                }
            }
            return false;
        }

        /** The set (bits) that purse has by which, with what others KNOW, most is KNOWN, then the cheapest. */
        int bestFor(int purse, int others) {
            int best = 0;
            int most = NONE;
            for (int i = 0; i < many; i++) {
                int n = Integer.bitCount(knowing[i] | others);
                if (costs[i] <= purse && (n > most || (n == most && costs[i] < costs[best]))) {
                    most = n;
                    best = i;
                }
            }
            return bits[best];
        }
    }

    /** What the council had best do against a court that then takes the CHEAPEST. */
    private static final class Council {
        private static final int BEYOND_ALL = 10000;
        /** Moves are numbers below this. */
        private static final int MOVES_END = 30;

        private final Island behindFirst = new Island();
        private final Island behindSecond = new Island();
        private int cost = 0;
        private int firstMove = 0;
        private int secondMove = 0;

        void weigh(Island now, int m, Sets sets) {
            int firsts = m > 0 ? MOVES_END : 1;
            int seconds = m > 1 ? MOVES_END : 1;
            cost = NONE;
            for (int first = 0; first < firsts; first++) {
                if (!canMove(now, first)) {
                    continue;
                }
                moveOn(now, first, behindFirst);
                for (int second = 0; second < seconds; second++) {
                    if (canMove(behindFirst, second)) {
                        moveOn(behindFirst, second, behindSecond);
                        keepIfBetter(courtPays(behindSecond, sets), first, second);
                    }
                }
            }
        }

        private void keepIfBetter(int pays, int first, int second) {
            if (pays > cost) {
                cost = pays;
                firstMove = first;
                secondMove = second;
            }
        }

        private static boolean canMove(Island island, int move) {
            return move == 0 || (move >= 10 && island.canSuffer(move % 10, move / 10 - 1));
        }

        private static void moveOn(Island from, int move, Island to) {
            to.become(from);
            if (move >= 10) {
                to.suffer(move % 10, move / 10 - 1);
            }
        }

        private static int courtPays(Island island, Sets sets) {
            sets.layOut(island, island.thoseAt(HOME));
            int i = sets.cheapestThatMakes(island.knownAbroad(), island.allParts());
            boolean can = i != NONE && sets.costOf(i) <= island.purse;
            return can ? sets.costOf(i) : BEYOND_ALL;
        }
    }

    /** Reads a text, element by element, and does what it tells to an island of its own. */
    private static final class TextReader {
        private static final int WORDS = 8;
        private static final int PARTS_WORD = 0;
        private static final int MAKER_WORD = 1;
        private static final int KNOWS_WORD = 2;
        private static final int KIN_WORD = 3;
        private static final int FEAR_WORD = 4;
        private static final int PURSE_WORD = 5;
        private static final int GOES_WORD = 6;
        private static final int MOST_DIGITS = 4;

        private final Island told = new Island();
        private final int[] signs = new int[LONGEST_ROW];
        private int size = 0;
        private int at = 0;
        /** Where the latest NUMBER began. */
        private int numberAt = 0;
        private int items = 0;
        private int fault = NONE;

        /** The FAULT; NONE: what is told now is how the island is by the whole text. */
        int readAll(Shelf row, Island now) {
            told.become(now);
            takeSigns(row);
            at = 0;
            items = 0;
            fault = NONE;
            for (int i = 0; i <= LONGEST_ROW && fault == NONE; i++) {
                readItem();
                items++;
                if (at >= size) {
                    break;
                }
                readSign(';');
            }
            return fault;
        }

        private void takeSigns(Shelf row) {
            size = Math.min(row.size, LONGEST_ROW);
            for (int i = 0; i < size; i++) {
                signs[i] = row.number(i);
            }
        }

        private boolean hasSign(int i, char sign) {
            return i >= 0 && i < size && signs[i] == sign;
        }

        private void fail(int place) {
            if (fault == NONE) {
                fault = place;
            }
        }

        private void readSign(char sign) {
            if (fault != NONE) {
                return;
            }
            if (hasSign(at, sign)) {
                at++;
            } else {
                fail(at);
            }
        }

        private static String wordBy(int number) {
            switch (number) {
                case PARTS_WORD:
                    return "parts";
                case MAKER_WORD:
                    return "maker";
                case KNOWS_WORD:
                    return "knows";
                case KIN_WORD:
                    return "kin";
                case FEAR_WORD:
                    return "fear";
                case PURSE_WORD:
                    return "purse";
                case GOES_WORD:
                    return "goes";
                default:
                    return "dies";
            }
        }

        /** How many letters of a word stand here, from its first on. */
        private int lettersOf(String word) {
            int n = 0;
            for (int i = 0; i < word.length(); i++) {
                if (!hasSign(at + i, word.charAt(i))) {
                    break;
                }
                n++;
            }
            return n;
        }

        /** The number of the word that stands here; NONE, and a FAULT behind what might have become one. */
        private int readWord() {
            int most = 0;
            for (int w = 0; w < WORDS; w++) {
                String word = wordBy(w);
                int n = lettersOf(word);
                if (n == word.length()) {
                    at += n;
                    return w;
                }
                most = Math.max(most, n);
            }
            fail(at + most);
            return NONE;
        }

        private int digitAt(int i) {
            int sign = i >= 0 && i < size ? signs[i] : NONE;
            return sign >= '0' && sign <= '9' ? sign - '0' : NONE;
        }

        /** A blank and a NUMBER from least to most; 0 if there is a FAULT. */
        private int readNumber(int least, int most) {
            readSign(' ');
            if (fault != NONE) {
                return 0;
            }
            numberAt = at;
            int value = 0;
            for (int i = 0; i < MOST_DIGITS && digitAt(at) != NONE; i++) {
                value = value * 10 + digitAt(at);
                at++;
            }
            if (at == numberAt || !isWithin(value, least, most)) {
                fail(numberAt);
                return 0;
            }
            return value;
        }

        private void readItem() {
            int start = at;
            switch (readWord()) {
                case PARTS_WORD:
                    readParts();
                    break;
                case MAKER_WORD:
                    readNewMaker(start);
                    break;
                case KNOWS_WORD:
                    readKnows();
                    break;
                case KIN_WORD:
                    readKin();
                    break;
                case FEAR_WORD:
                    readFear();
                    break;
                case PURSE_WORD:
                    readPurse();
                    break;
                case GOES_WORD:
                    readGoes();
                    break;
                case NONE:
                    break;
                default:
                    readDies();
                    break;
            }
        }

        private void readParts() {
            int n = readNumber(told.parts, MOST_PARTS);
            if (fault == NONE) {
                told.parts = n;
            }
        }

        private void readNewMaker(int start) {
            if (told.isFull()) {
                fail(start);
            }
            int kind = readNumber(0, KINDS - 1);
            int a = readNumber(0, GREATEST_A);
            int want = readNumber(0, GREATEST_WANT);
            if (fault == NONE) {
                told.addMaker(kind, a, want);
            }
        }

        private void readKnows() {
            int m = readNumber(0, told.count - 1);
            int part = readNumber(0, told.parts - 1);
            if (fault == NONE) {
                told.learn(m, part, true);
            }
        }

        private void readKin() {
            int m = readNumber(0, told.count - 1);
            int l = readNumber(0, told.count - 1);
            if (m == l) {
                fail(numberAt);
            }
            if (fault == NONE) {
                told.join(m, l, true);
            }
        }

        private void readFear() {
            int n = readNumber(0, GREATEST_FEAR);
            if (fault == NONE) {
                told.fear = n;
            }
        }

        private void readPurse() {
            int n = readNumber(0, GREATEST_PURSE);
            if (fault == NONE) {
                told.purse = n;
            }
        }

        private void readGoes() {
            int m = readNumber(0, told.count - 1);
            if (!told.isAt(m, HOME)) {
                fail(numberAt);
            }
            if (fault == NONE) {
                told.moveTo(m, ABROAD);
            }
        }

        private void readDies() {
            int m = readNumber(0, told.count - 1);
            if (told.isAt(m, DEAD)) {
                fail(numberAt);
            }
            if (fault == NONE) {
                told.moveTo(m, DEAD);
            }
        }
    }

    /** Runs the BODIES of a MOVE and keeps THE TRACE. */
    private static final class Mover {
        private static final int LONGEST_TRACE = 20;
        /** No MOVE of any KIND goes this deep. */
        private static final int DEEPEST = 30;
        /** By KINDS, the BODIES for blows, sells, hides; 0: it has none of its own. */
        private static final int[] BODIES = {
            10, 11, 12,
            20, 0, 0,
            0, 30, 0,
            0, 40, 0,
            51, 0, 50,
            0, 0, 60,
            70, 71, 0
        };

        private final int[] kept = new int[LONGEST_TRACE];
        private int ran = 0;
        private int number = 0;
        private int kind = 0;
        private int a = 0;

        int begin(Island island, int m, int move, int x) {
            ran = 0;
            if (!island.isMaker(m) || move < 0 || move >= MOVES) {
                return 0;
            }
            number = m;
            kind = island.kindOf(m);
            a = island.aOf(m);
            return run(kind, move, x, 0);
        }

        int bodyAt(int i) {
            return i >= 0 && i < ran && i < LONGEST_TRACE ? kept[i] : NONE;
        }

        private static int bodyOf(int ofKind, int move) {
            int i = ofKind * MOVES + move;
            return i >= 0 && i < BODIES.length ? BODIES[i] : 0;
        }

        /** The MOVE by the body of a KIND, or of the next above that has one. */
        private int run(int from, int move, int x, int depth) {
            if (depth >= DEEPEST) {
                return 0;
            }
            int owner = from;
            for (int i = 0; i < KINDS && owner != NONE && bodyOf(owner, move) == 0; i++) {
                owner = kindAbove(owner);
            }
            int body = bodyOf(owner, move);
            if (ran >= 0 && ran < LONGEST_TRACE) {
                kept[ran] = body;
            }
            ran++;
            return answerOf(body, kindAbove(owner), x, depth + 1);
        }

        private int answerOf(int body, int above, int x, int depth) {
            switch (body) {
                case 10:
                    return x + number;
                case 11:
                    return run(kind, BLOWS, x, depth) * 2;
                case 12:
                    return run(kind, SELLS, x, depth) ^ run(kind, BLOWS, x - a, depth);
                case 20:
                    return run(above, BLOWS, x, depth) + a;
                case 30:
                    return run(above, SELLS, x, depth) * 3;
                case 40:
                    return run(above, SELLS, x + 1, depth);
                case 50:
                    return -run(above, HIDES, x, depth);
                case 51:
                    return run(above, BLOWS, x, depth) - number;
                case 60:
                    return run(above, HIDES, x, depth) ^ 5;
                case 70:
                    return run(above, BLOWS, x, depth) * 2;
                case 71:
                    return run(above, SELLS, x - a, depth);
                default:
                    return 0;
            }
        }
    }
}
