import java.lang.reflect.InvocationTargetException;
import java.lang.reflect.Method;
import java.lang.reflect.Modifier;
import java.util.Map;
import java.util.TreeMap;

/** All promises together: long runs of calls drawn by numbers, each answer held against the Model's. */
public final class WalkTest {
    private static final int RUNS = 1500;
    private static final int CALLS = 512;
    private static final int STATES = 40;
    private static final int[] EXTREMES = {-2, 100, 161, Integer.MIN_VALUE, Integer.MAX_VALUE};
    /** Of each number that a call is told its least and most; s: one of the run's shelves; v: any number. */
    private static final String[] CALL = {
        "row s 0 3 0 12", "set s 0 11 v", "copy s s 0 4 0 4 0 5", "element 0 7 0 12", "show s -1 5", "holds 0 7",
        "says s 0 6", "thing 0 9 0 23 0 23 0 9 0 99 0 9 0 20", "waiter 0 6 0 9 1 9 1 24 0 9", "move 0 5 0 9",
        "ask 0 9", "thingOf 0 7 0 7", "waiterOf 0 5 0 6", "cost 0 5 0 24", "guild s", "fault", "by 0 7 0 23",
        "stop 0 7 0 5 0 1", "best 0 7", "lookouts 0 5", "rota 0 7 -1 5", "posts 0 1", "seen 0 5 0 1", "met 0 7 0 1",
        "runners 0 8 0 1", "left s 0 4", "await -1 23", "judge s 0 4", "behind s 0 4 0 2", "done s 0 4", "days 1 60",
        "seed v", "act 0 5 0 2 v", "trace 0 11", "image", "restore", "status 0 18"};
    private static final Map<String, Method> FACE = new TreeMap<>();
    private static int drawn = 4711;

    private final int run;
    private final HiredToWait x = new HiredToWait();
    private final Model model = new Model();
    private int asked = 0;

    private WalkTest(int run) {
        this.run = run;
    }

    public static void main(String[] args) throws ReflectiveOperationException {
        for (Method m : HiredToWait.class.getDeclaredMethods()) {
            if (Modifier.isPublic(m.getModifiers())) FACE.put(m.getName(), m);
        }
        Due.is("calls of the face", FACE.size(), CALL.length);
        for (int run = 0; run < RUNS; run++) {
            new WalkTest(run).walk();
        }
        Due.end();
    }

    private static int below(int n) {
        drawn = drawn * 1664525 + 1013904223;
        return (drawn >>> 8) % n;
    }

    private static int from(int least, int most) {
        return least + below(most - least + 1);
    }

    private void walk() throws ReflectiveOperationException {
        // some start from a guild, so that the rest of the run has something to go by
        for (int i = below(9); i > 0; i--) {
            tellThing();
        }
        for (int i = below(7); i > 0; i--) {
            compare("waiter", from(0, 6), from(0, 9), from(1, 9), from(1, 24), from(0, 9));
        }
        while (asked < CALLS - STATES) {
            int which = below(60);
            if (which == 0) {
                readText();
            } else if (which == 1) {
                tellDay();
            } else if (which == 2) {
                tellQuarters();
            } else if (which == 3) {
                tellThing();
            } else {
                drawCall();
            }
        }
        for (int i = 0; i < 18 && asked < CALLS; i++) {
            compare("status", i);
            compare("trace", i);
        }
    }

    private void compare(String call, long... told) throws ReflectiveOperationException {
        if (asked >= CALLS) return;
        asked++;
        Method m = FACE.get(call);
        Object[] arguments = new Object[told.length];
        StringBuilder words = new StringBuilder("run " + run + ", call " + asked + ": " + call + "(");
        for (int i = 0; i < told.length; i++) {
            arguments[i] = m.getParameterTypes()[i] == long.class ? (Object) told[i] : (Object) (int) told[i];
            words.append(i == 0 ? "" : ", ").append(told[i]);
        }
        long due = model.answer(call, told);
        try {
            Due.is(words.append(")").toString(), ((Number) m.invoke(x, arguments)).longValue(), due);
        } catch (InvocationTargetException e) {
            Due.holds(words + " doesn't throw " + e.getCause(), false);
        }
    }

    private void drawCall() throws ReflectiveOperationException {
        String[] words = CALL[below(CALL.length)].split(" ");
        // each of them would fill up all that there is room for, or undo what the run came to
        boolean isSeldom = words[0].equals("restore") || words[0].equals("row") || words[0].equals("waiter");
        if (isSeldom && below(3) != 0) return;
        long[] told = new long[FACE.get(words[0]).getParameterCount()];
        int word = 1;
        for (int i = 0; i < told.length; i++) {
            if (words[word].equals("v")) {
                told[i] = anyNumber(FACE.get(words[0]).getParameterTypes()[i] == long.class);
            } else if (words[word].equals("s")) {
                told[i] = below(50) == 0 ? numberFrom(0, 7) : someShelf();
            } else {
                told[i] = numberFrom(Integer.parseInt(words[word]), Integer.parseInt(words[++word]));
            }
            word++;
        }
        compare(words[0], told);
    }

    /** Few in a run, so that calls come to what others put there. */
    private int someShelf() {
        return run % 5 + below(4);
    }

    private static long anyNumber(boolean isLong) {
        int low = below(2) == 0 ? from(-1, 30) : below(1 << 24) << 8 | below(256);
        return isLong && below(3) == 0 ? (long) below(1 << 24) << 40 | low & 0xFFFFFFFFL : low;
    }

    private static int numberFrom(int least, int most) {
        switch (below(40)) {
            case 0: return least - 1;
            case 1: return most + 1;
            case 2: return EXTREMES[below(EXTREMES.length)];
            case 3: return least;
            case 4: return most;
            default: return from(least, most);
        }
    }

    private void tellThing() throws ReflectiveOperationException {
        int first = from(0, 23);
        compare("thing", from(0, 9), first, from(first, 23), from(0, 9), below(3) == 0 ? 50 : from(0, 99), from(0, 9), from(0, 20));
    }

    private void lay(int s, int sort, long... elements) throws ReflectiveOperationException {
        compare("row", s, sort, elements.length);
        for (int i = 0; i < elements.length; i++) {
            // what is above the lowest bits counts for nothing
            long high = sort == 3 && below(4) == 0 ? 5L << 32 : 0;
            compare("set", s, i, elements[i] + high);
        }
    }

    private void tellDay() throws ReflectiveOperationException {
        int s = someShelf();
        long[] day = new long[from(0, Math.min(8, model.things() + 1))];
        int skipped = below(2);
        for (int i = 0; i < day.length; i++) {
            int t = (i + skipped) % 8;
            boolean isThere = t < model.things();
            int quarter = isThere ? from(model.thing(t).first(), model.thing(t).last()) : 0;
            day[i] = t * 100 + (below(4) == 0 ? 99 : quarter);
            if (below(20) == 0) day[i] = from(-1, 900);
        }
        lay(s, from(1, 3), day);
        for (int n = Math.max(0, day.length - 2); n <= day.length + 1; n++) {
            compare("judge", s, n);
            compare("behind", s, n, from(0, 2));
            compare("done", s, n);
        }
    }

    private void tellQuarters() throws ReflectiveOperationException {
        int s = someShelf();
        long[] quarters = new long[from(0, 5)];
        for (int i = 0; i < quarters.length; i++) {
            quarters[i] = numberFrom(4, 23);
        }
        lay(s, from(0, 3), quarters);
        for (int n = 0; n <= quarters.length + 1; n++) {
            compare("left", s, n);
        }
    }

    private void readText() throws ReflectiveOperationException {
        StringBuilder text = new StringBuilder(item());
        for (int i = below(4); i > 0; i--) {
            text.append(';').append(item());
        }
        int place = below(text.length());
        switch (below(7)) {
            case 0: text.setLength(place); break;
            case 1: text.setCharAt(place, " ;0a9mx".charAt(below(7))); break;
            case 2: text.insert(place, " ;0a9mx".charAt(below(7))); break;
            case 3: text.deleteCharAt(place); break;
            default: break;
        }
        int s = someShelf();
        lay(s, from(0, 3), text.chars().asLongStream().toArray());
        compare("guild", s);
        compare("fault");
        compare("status", 0);
        compare("status", 1);
        compare("status", 2);
    }

    private String item() {
        switch (below(5)) {
            case 0: return "hope" + numbers(0, 9);
            case 1: return "moves" + numbers(0, Math.max(1, model.men() - 1), 0, 9);
            case 2: return "waiter" + numbers(0, 6, 0, 9, 1, 9, 1, 24, 0, 9);
            default:
                int first = from(0, 23);
                return "thing" + numbers(0, 9, first, first, below(9) == 0 ? 0 : first, 23, 0, 9, 0, 99, 0, 9, 0, 20);
        }
    }

    private static String numbers(int... bounds) {
        StringBuilder text = new StringBuilder();
        for (int i = 0; i < bounds.length; i += 2) {
            int v = from(bounds[i], bounds[i + 1]);
            if (below(60) == 0) v = below(2) == 0 ? bounds[i + 1] + 1 : Math.max(0, bounds[i] - 1);
            text.append(v < 10 && below(6) == 0 ? " 0" : " ").append(v);
        }
        return text.toString();
    }
}
