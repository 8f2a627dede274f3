/** Puts what is written into rows of an object. */
final class Texts {
    private Texts() {
    }

    /** Shelf s holds a row of bytes with these letters. */
    static void letters(NoneMayLeave x, int s, String text) {
        x.row(s, 0, text.length());
        for (int i = 0; i < text.length(); i++) {
            x.set(s, i, text.charAt(i));
        }
    }

    /** Shelf s holds a row of a sort with these numbers. */
    static void numbers(NoneMayLeave x, int s, int sort, long... numbers) {
        x.row(s, sort, numbers.length);
        for (int i = 0; i < numbers.length; i++) {
            x.set(s, i, numbers[i]);
        }
    }

    /** The island of a text, on shelf 7. */
    static int island(NoneMayLeave x, String text) {
        letters(x, 7, text);
        return x.island(7);
    }

    /** The fault of a text, on shelf 7. */
    static int fault(NoneMayLeave x, String text) {
        island(x, text);
        return x.fault();
    }
}
