import java.util.ArrayList;
import java.util.List;

/** Islands that tests begin with, and all that can be seen of one. */
final class Made {
    /** Shelves of the rich island: rows by their sorts, an empty row, two makers, nothing. */
    static final int BYTES = 0;
    static final int SHORTS = 1;
    static final int INTS = 2;
    static final int LONGS = 3;
    static final int A_MAKER = 4;
    static final int NOTHING = 5;
    static final int EMPTY = 6;
    static final int A_DEAD = 7;
    /** The row of ints is longer than what may be told by one. */
    static final int MANY = 45;

    private static final int SEEN_ELEMENTS = 5;

    private Made() {
    }

    /**
     * One maker of each kind, number and kind alike: 0 to 3 at home, 4 shut up, 5 abroad, 6 dead; all that an object
     * keeps is other than at first.
     */
    static NoneMayLeave rich() {
        NoneMayLeave x = new NoneMayLeave();
        x.row(EMPTY, 0, 1);
        x.island(EMPTY);
        x.row(EMPTY, 0, 0);
        x.month();
        x.ask(1, 500);
        for (int kind = 0; kind < 6; kind++) {
            x.maker(kind, kind + 1, 10 * (kind + 1));
        }
        x.image();
        x.maker(6, 7, 70);
        for (int m = 0; m < 7; m++) {
            x.knows(m, m % 4, true);
        }
        x.kin(1, 0, true);
        x.kin(3, 1, true);
        x.kin(4, 5, true);
        x.bid(6, 63);
        x.deed(6, 1);
        x.bid(5, 6);
        x.deed(4, 0);
        x.seed(77);
        x.row(BYTES, 0, 5);
        x.row(SHORTS, 1, 5);
        x.row(INTS, 2, MANY);
        x.row(LONGS, 3, 5);
        for (int s = BYTES; s <= LONGS; s++) {
            x.set(s, 0, s + 1);
        }
        x.show(A_MAKER, 1);
        x.show(A_DEAD, 6);
        x.act(6, 2, 3);
        return x;
    }

    /** Plain makers with a 0 and these wants, each with these parts (bits), all at home; so many parts, 4 at least. */
    static NoneMayLeave plain(int parts, int[] wants, int[] known) {
        NoneMayLeave x = new NoneMayLeave();
        x.parts(parts);
        for (int m = 0; m < wants.length; m++) {
            x.maker(0, 0, wants[m]);
            know(x, m, m < known.length ? known[m] : 0);
        }
        return x;
    }

    /** A maker knows these parts (bits) too. */
    static void know(NoneMayLeave x, int m, int bits) {
        for (int p = 0; p < 8; p++) {
            if ((bits >> p & 1) != 0) {
                x.knows(m, p, true);
            }
        }
    }

    /** An island by a text that is read in pieces, since a row has room for 160 letters. */
    static NoneMayLeave by(String... texts) {
        NoneMayLeave x = new NoneMayLeave();
        for (String text : texts) {
            if (Texts.island(x, text) < 0) {
                throw new IllegalStateException("no island: " + text);
            }
        }
        return x;
    }

    /** All that can be seen but the counts of refusals, asked for by calls that refuse nothing. */
    static long[] seen(NoneMayLeave x) {
        List<Integer> seen = new ArrayList<>();
        for (int what = 0; what <= 9; what++) {
            seen.add(x.status(what));
        }
        for (int m = 0; m < x.status(0); m++) {
            for (int what = 0; what <= 6; what++) {
                seen.add(x.makerOf(m, what));
            }
        }
        seen.add(x.fault());
        for (int i = 0; i < 10; i++) {
            seen.add(x.trace(i));
        }
        for (int s = 0; s < 8; s++) {
            seen.add(x.holds(s));
            for (int i = 0; i < SEEN_ELEMENTS; i++) {
                seen.add(Long.hashCode(x.element(s, i)));
            }
        }
        return seen.stream().mapToLong(v -> v).toArray();
    }
}
