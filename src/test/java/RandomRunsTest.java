import java.lang.reflect.Method;
import java.util.HashMap;
import java.util.Map;
import java.util.Random;

/** Long mixed runs, each call asked of the class and of Naive: the answers must be the same. */
public final class RandomRunsTest {
    private static final int RUNS = 1500;
    private static final int CALLS = 512;
    private static final String[] WORDS = {"parts", "maker", "knows", "kin", "fear", "purse", "goes", "dies"};
    private static final int[] ODD = {-2, -1, 8, 9, 40, 41, 99, 100, 160, 161, 9999, 10000,
        Integer.MAX_VALUE, Integer.MIN_VALUE};

    private final Due due;
    private final int run;
    private final Random random;
    private final NoneMayLeave real = new NoneMayLeave();
    private final Naive naive = new Naive();
    private final Map<String, Method> reals = new HashMap<>();
    private final Map<String, Method> naives = new HashMap<>();
    private int calls = 0;

    private RandomRunsTest(Due due, int run) {
        this.due = due;
        this.run = run;
        this.random = new Random(run);
        for (Method m : NoneMayLeave.class.getDeclaredMethods()) {
            reals.put(m.getName(), m);
        }
        for (Method m : Naive.class.getDeclaredMethods()) {
            if ((m.getModifiers() & java.lang.reflect.Modifier.PUBLIC) != 0) {
                naives.put(m.getName(), m);
            }
        }
    }

    public static void main(String[] args) throws Exception {
        int from = args.length > 0 ? Integer.parseInt(args[0]) : 0;
        int runs = args.length > 1 ? Integer.parseInt(args[1]) : RUNS;
        Due due = new Due("RandomRunsTest");
        for (int run = from; run < from + runs && due.isClean(); run++) {
            new RandomRunsTest(due, run).play();
        }
        due.end();
    }

    private long call(String name, Object... args) throws Exception {
        calls++;
        long got = ((Number) reals.get(name).invoke(real, args)).longValue();
        long want = ((Number) naives.get(name).invoke(naive, args)).longValue();
        StringBuilder b = new StringBuilder("run " + run + " call " + calls + ": " + name + "(");
        for (int i = 0; i < args.length; i++) {
            b.append(i == 0 ? "" : ", ").append(args[i]);
        }
        due.is(b + ")", got, want);
        return got;
    }

    private int below(int n) {
        return random.nextInt(n);
    }

    /** Mostly from least to most, at times somewhat or far beside it. */
    private int near(int least, int most) {
        int r = below(40);
        if (r == 0) {
            return ODD[below(ODD.length)];
        }
        if (r == 1) {
            return least - 1;
        }
        if (r == 2) {
            return most + 1;
        }
        return least + below(most - least + 1);
    }

    private int man() {
        int n = naive.status(0);
        return near(0, Math.max(0, n - 1));
    }

    private void play() throws Exception {
        int makers = below(9);
        for (int i = 0; i < makers; i++) {
            call("maker", below(7), below(10), below(below(4) == 0 ? 100 : 30));
        }
        if (below(2) == 0) {
            call("parts", near(1, 8));
        }
        int much = 1 + below(4);
        for (int m = 0; m < makers; m++) {
            for (int p = 0; p < naive.status(1); p++) {
                if (below(4) < much) {
                    call("knows", m, p, true);
                }
            }
        }
        if (below(3) > 0) {
            call("ask", 1, below(2) == 0 ? below(10000) : below(200));
            call("ask", 0, below(100));
        }
        while (calls < CALLS - 8 && due.isClean()) {
            step();
        }
        for (int what = 0; what < 8; what++) {
            call("status", what);
        }
    }

    private void step() throws Exception {
        switch (below(12)) {
            case 0:
                shelfStep();
                break;
            case 1:
                makerStep();
                break;
            case 2:
            case 3:
                textStep();
                break;
            case 4:
            case 5:
            case 6:
                reckoningStep();
                break;
            case 7:
            case 8:
                toldStep();
                break;
            case 9:
                truthStep();
                break;
            case 10:
                call("act", man(), near(0, 2), below(2) == 0 ? random.nextInt() : below(20));
                call("status", 9);
                call("trace", near(0, 10));
                break;
            default:
                call("status", near(0, 17));
                call("status", 11 + below(7));
                if (below(4) == 0) {
                    call(below(2) == 0 ? "image" : "restore");
                }
                break;
        }
    }

    private void shelfStep() throws Exception {
        switch (below(7)) {
            case 0:
                call("row", near(0, 7), near(0, 3), near(0, 160));
                break;
            case 1:
                call("set", near(0, 7), near(0, 20), random.nextLong() >> below(64));
                break;
            case 2:
                call("copy", near(0, 7), near(0, 7), near(0, 6), near(0, 6), near(0, 10));
                break;
            case 3:
                call("show", near(0, 7), below(8) == 0 ? -1 : man());
                break;
            case 4:
                call("holds", near(0, 7));
                break;
            case 5:
                call("says", near(0, 7), near(0, 6));
                break;
            default:
                call("element", near(0, 7), near(0, 20));
                break;
        }
        for (int s = 0; s < 8; s++) {
            call("holds", s);
        }
    }

    private void makerStep() throws Exception {
        switch (below(7)) {
            case 0:
                call("maker", near(0, 6), near(0, 9), near(0, 99));
                break;
            case 1:
                call("parts", near(naive.status(1), 8));
                break;
            case 2:
                call("knows", man(), near(0, naive.status(1) - 1), below(2) == 0);
                break;
            case 3:
                call("kin", man(), man(), below(3) > 0);
                break;
            case 4:
                call("ask", near(0, 1), near(0, 99));
                break;
            case 5:
                call("ask", 1, near(0, 9999));
                break;
            default:
                int m = man();
                for (int what = 0; what <= 6; what++) {
                    call("makerOf", m, what);
                }
                call("makerOf", man(), near(0, 6));
                int s = below(8);
                call("show", s, m);
                for (int kind = 0; kind < 7; kind++) {
                    call("says", s, kind);
                }
                break;
        }
    }

    private String number(int least, int most) {
        String zeros = below(10) == 0 ? "000".substring(below(3)) : "";
        int v = near(least, Math.max(least, most));
        return zeros + Math.abs(v);
    }

    private String item() {
        int n = naive.status(0);
        String word = WORDS[below(8)];
        switch (word) {
            case "parts":
                return word + " " + number(naive.status(1), 8);
            case "maker":
                return word + " " + number(0, 6) + " " + number(0, 9) + " " + number(0, 99);
            case "knows":
                return word + " " + number(0, n) + " " + number(0, naive.status(1) - 1);
            case "kin":
                return word + " " + number(0, n) + " " + number(0, n);
            case "fear":
                return word + " " + number(0, 99);
            case "purse":
                return word + " " + number(0, 9999);
            default:
                return word + " " + number(0, n);
        }
    }

    private void textStep() throws Exception {
        StringBuilder b = new StringBuilder(item());
        for (int i = below(4); i > 0; i--) {
            b.append(';').append(item());
        }
        if (below(4) == 0) {
            int at = below(b.length());
            switch (below(4)) {
                case 0:
                    b.setCharAt(at, "abckmpursegod; 0519~".charAt(below(20)));
                    break;
                case 1:
                    b.setLength(at);
                    break;
                case 2:
                    b.deleteCharAt(at);
                    break;
                default:
                    b.insert(at, "; 07x".charAt(below(5)));
                    break;
            }
        }
        if (calls + b.length() + 8 > CALLS || b.length() > 160) {
            return;
        }
        int sort = below(4);
        int s = below(8);
        call("row", s, sort, b.length());
        for (int i = 0; i < b.length(); i++) {
            call("set", s, i, (long) b.charAt(i) + (sort == 3 && below(9) == 0 ? 1L << 40 : 0L));
        }
        call("island", below(30) == 0 ? near(0, 7) : s);
        call("fault");
    }

    private void reckoningStep() throws Exception {
        call("abroad", near(0, 1));
        call("fewest");
        call("cheapest", near(0, 2));
        call("alone", near(0, 1));
        call("without", near(0, 8));
        call("sold", near(1, 8));
        call("stands");
        call("lessons", near(0, 8));
        call("offer", below(2) == 0 ? near(0, 99) : near(0, 999));
        call("spend");
        if (below(6) == 0) {
            int m = near(0, 2);
            call("council", m, -1);
            call("council", m, near(-1, 1));
            call("council", m, 0);
        }
    }

    private void fill(int s, int n, int least, int most) throws Exception {
        call("row", s, below(4), n);
        for (int i = 0; i < n; i++) {
            call("set", s, i, (long) near(least, most));
        }
    }

    private int among(int n) {
        return below(10) == 0 ? near(0, 41) : below(n + 1);
    }

    private void toldStep() throws Exception {
        int s = below(8);
        int t = below(8);
        int n = below(9);
        if (below(20) == 0) {
            call("row", s, below(4), 41);
            n = 41 - below(2);
        } else if (below(4) == 0) {
            fill(s, n, 0, 7);
        } else if (below(3) == 0) {
            fill(s, n, 0, 99);
        } else if (below(2) == 0) {
            fill(s, n, 0, (1 << naive.status(0)) - 1);
            fill(t, n, 0, 1);
        } else {
            call("row", s, 1 + below(3), n);
            for (int i = 0; i < n; i++) {
                call("set", s, i, (long) (below(4) == 0 ? 0 : 100 * (1 + below(4)) + below(8)));
            }
        }
        int odd = below(25) == 0 ? near(0, 7) : s;
        int part = 1 << naive.status(1);
        call("letter", odd, among(n), near(0, 7));
        int told = (int) call("letter", s, n, below(8));
        call("keys", s, n, told);
        call("keys", odd, among(n), near(0, part - 1));
        call("tries", odd, near(-1, naive.status(1) - 1));
        call("tries", odd, -1);
        call("who", odd, t, among(n));
        call("who", s, t, n);
        call("judge", odd, among(n));
        call("behind", odd, among(n), near(0, 2));
        call("judge", s, n);
        if (below(3) == 0) {
            call("done", odd, among(n));
        }
    }

    private void truthStep() throws Exception {
        int m = man();
        switch (below(7)) {
            case 0:
            case 1:
                int price = (int) call("makerOf", m, 6);
                call("bid", m, near(price - 1, price + 1));
                break;
            case 2:
            case 3:
                call("deed", m, near(0, 2));
                break;
            case 4:
                call("write");
                break;
            case 5:
                call("month");
                break;
            default:
                if (below(3) == 0) {
                    call("years", near(1, 30));
                    call("status", 8);
                }
                call("seed", random.nextInt());
                break;
        }
        for (int what = 2; what <= 8; what++) {
            call("status", what);
        }
    }
}
