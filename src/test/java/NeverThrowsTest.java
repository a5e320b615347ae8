import java.lang.reflect.InvocationTargetException;
import java.lang.reflect.Method;
import java.lang.reflect.Modifier;
import java.util.ArrayList;
import java.util.Comparator;
import java.util.List;
import java.util.Set;

/** No call throws, whatever is told it, and refusals are counted as they are answered. */
public final class NeverThrowsTest {
    private static final int[] ODD = {-1, -2, Integer.MIN_VALUE, Integer.MAX_VALUE, 8, 10, 24, 41, 100, 161};
    /** Where NONE is an answer, so that only what is below -10 is a refusal. */
    private static final Set<String> APART = Set.of("stop", "best", "rota", "posts", "judge");
    private static final Set<String> NEVER_REFUSE = Set.of("element", "holds", "fault", "seed", "act", "trace", "status");
    private static int drawn = 777;

    public static void main(String[] args) throws IllegalAccessException {
        List<Method> calls = new ArrayList<>();
        for (Method m : HiredToWait.class.getDeclaredMethods()) {
            if (Modifier.isPublic(m.getModifiers())) calls.add(m);
        }
        // reflection tells them in no fixed order
        calls.sort(Comparator.comparing(Method::getName));
        Due.is("calls of the face", calls.size(), 37);
        for (int run = 0; run < 600; run++) {
            oneRun(calls);
        }
        Due.end();
    }

    private static int below(int n) {
        drawn = drawn * 1664525 + 1013904223;
        return (drawn >>> 12) % n;
    }

    private static void oneRun(List<Method> calls) throws IllegalAccessException {
        HiredToWait x = new HiredToWait();
        int[] refusals = new int[8];
        for (int call = 0; call < 500; call++) {
            Method m = calls.get(below(calls.size()));
            Object[] told = new Object[m.getParameterCount()];
            for (int i = 0; i < told.length; i++) {
                int v = below(12) == 0 ? ODD[below(ODD.length)] : below(below(3) == 0 ? 24 : 7);
                if (m.getParameterTypes()[i] == long.class) {
                    told[i] = (long) v;
                } else {
                    told[i] = v;
                }
            }
            count(m.getName(), answer(x, m, told), refusals);
        }
        for (int i = 1; i < 8; i++) {
            Due.is("refusals -" + i, x.status(10 + i), refusals[i]);
        }
    }

    private static long answer(HiredToWait x, Method m, Object[] told) throws IllegalAccessException {
        try {
            return ((Number) m.invoke(x, told)).longValue();
        } catch (InvocationTargetException e) {
            e.getCause().printStackTrace(System.out);
            Due.holds(m.getName() + " doesn't throw", false);
            return 0;
        }
    }

    private static void count(String name, long answer, int[] refusals) {
        if (NEVER_REFUSE.contains(name) || answer >= 0) return;
        if (!APART.contains(name)) {
            Due.holds(name + " refuses by " + answer, name.equals("await") ? answer == -6 : answer >= -7);
            refusals[(int) -answer]++;
        } else if (answer != -1) {
            Due.holds(name + " refuses by " + answer, answer <= -11 && answer >= -17);
            refusals[(int) -answer - 10]++;
        }
    }
}
