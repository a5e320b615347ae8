/** Counts the answers that aren't the ones that are due, and lays rows for the tests. */
final class Due {
    private static int asked = 0;
    private static int wrong = 0;
    private static String sentence = "";

    private Due() {
    }

    /** The sentence that the answers from now on are about. */
    static void about(String words) {
        sentence = words.isEmpty() ? "" : "[" + words + "] ";
    }

    static int asked() {
        return asked;
    }

    static void is(String call, long got, long want) {
        asked++;
        if (got != want) {
            wrong++;
            if (wrong <= 40) System.out.println(sentence + call + " answered " + got + ", due is " + want);
        }
    }

    static void holds(String what, boolean stands) {
        is(what, stands ? 1 : 0, 1);
    }

    /** A row of the sort with these elements. */
    static void row(HiredToWait x, int s, int sort, long... elements) {
        is("row", x.row(s, sort, elements.length), 1);
        for (int i = 0; i < elements.length; i++) {
            is("set", x.set(s, i, elements[i]), 1);
        }
    }

    static void text(HiredToWait x, int s, String letters) {
        long[] elements = new long[letters.length()];
        for (int i = 0; i < elements.length; i++) {
            elements[i] = letters.charAt(i);
        }
        row(x, s, 0, elements);
    }

    /** The counts of the refusals -1 to -7, in this order. */
    static void refused(HiredToWait x, int... counts) {
        for (int i = 0; i < counts.length; i++) {
            is("status(" + (11 + i) + ")", x.status(11 + i), counts[i]);
        }
    }

    static void end() {
        System.out.println(asked + " answers, " + wrong + " not as due");
        if (wrong != 0 || asked == 0) System.exit(1);
    }
}
