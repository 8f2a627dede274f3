import java.lang.reflect.Method;
import java.lang.reflect.Modifier;
import java.util.ArrayList;
import java.util.Comparator;
import java.util.List;
import java.util.Random;

/** Every call with any numbers at all, small and vast: none throws, and each answers what Naive answers. */
public final class WildTest {
    private static final int RUNS = 400;
    private static final int CALLS = 512;
    private static final int[] VAST = {Integer.MIN_VALUE, Integer.MIN_VALUE + 1, -1000, -161, -100, -41, -2, -1,
        9, 10, 27, 40, 41, 99, 100, 107, 159, 160, 161, 240, 241, 256, 999, 1000, 9999, 10000,
        Integer.MAX_VALUE - 1, Integer.MAX_VALUE};

    private WildTest() {
    }

    public static void main(String[] args) throws Exception {
        Due due = new Due("WildTest");
        List<Method> calls = new ArrayList<>();
        for (Method m : NoneMayLeave.class.getDeclaredMethods()) {
            if (Modifier.isPublic(m.getModifiers())) {
                calls.add(m);
            }
        }
        // The machine tells methods in any order; a run must be the same every time.
        calls.sort(Comparator.comparing(Method::getName));
        for (int run = 0; run < RUNS && due.isClean(); run++) {
            play(due, calls, new Random(run), run);
        }
        due.end();
    }

    private static void play(Due due, List<Method> calls, Random random, int run) throws Exception {
        NoneMayLeave real = new NoneMayLeave();
        Naive naive = new Naive();
        for (int call = 0; call < CALLS && due.isClean(); call++) {
            Method m = calls.get(random.nextInt(calls.size()));
            Object[] args = new Object[m.getParameterCount()];
            StringBuilder told = new StringBuilder("run " + run + " call " + call + ": " + m.getName());
            for (int i = 0; i < args.length; i++) {
                args[i] = any(m.getParameterTypes()[i], random);
                told.append(' ').append(args[i]);
            }
            Method same = Naive.class.getMethod(m.getName(), m.getParameterTypes());
            long got = ((Number) m.invoke(real, args)).longValue();
            due.is(told.toString(), got, ((Number) same.invoke(naive, args)).longValue());
        }
    }

    private static Object any(Class<?> type, Random random) {
        if (type == boolean.class) {
            return random.nextBoolean();
        }
        int v = random.nextInt(8) == 0 ? VAST[random.nextInt(VAST.length)]
            : random.nextInt(12) == 0 ? random.nextInt(161) : random.nextInt(7);
        if (type == long.class) {
            return random.nextInt(4) == 0 ? random.nextLong() : (long) v;
        }
        return v;
    }
}
