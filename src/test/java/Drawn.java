/** Draws in the document's words, reckoned apart from the class. */
final class Drawn {
    private Drawn() {
    }

    /** The seed behind a draw. */
    static int next(int seed) {
        return (int) (seed * 1103515245L + 12345L);
    }

    /** What is drawn below n by a seed. */
    static int below(int seed, int n) {
        return (int) ((next(seed) & 0xFFFFFFFFL) / 65536 % n);
    }

    /** The least seed from 1 on by which draws below ns[0], ns[1], .. answer due[0], due[1], .. */
    static int seedFor(int[] ns, int[] due) {
        for (int seed = 1; seed < 10_000_000; seed++) {
            if (fits(seed, ns, due)) {
                return seed;
            }
        }
        throw new IllegalStateException("no such seed");
    }

    private static boolean fits(int start, int[] ns, int[] due) {
        int seed = start;
        for (int i = 0; i < ns.length; i++) {
            if (below(seed, ns[i]) != due[i]) {
                return false;
            }
            seed = next(seed);
        }
        return true;
    }

    /** The seed behind so many draws. */
    static int behind(int start, int draws) {
        int seed = start;
        for (int i = 0; i < draws; i++) {
            seed = next(seed);
        }
        return seed;
    }
}
