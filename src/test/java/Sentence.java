import java.io.IOException;
import java.nio.file.Files;
import java.nio.file.Path;
import java.util.regex.Matcher;
import java.util.regex.Pattern;

/** Sentences of the document, word by word as they stand there, each with a test of its own. */
final class Sentence {
    private static final String DOCUMENT = document();
    private static final boolean[] QUOTED = new boolean[DOCUMENT.length()];

    private Sentence() {
    }

    private static String document() {
        try {
            return onOneLine(Files.readString(Path.of("../shared/DOC.md")));
        } catch (IOException e) {
            throw new IllegalStateException("no ../shared/DOC.md", e);
        }
    }

    private static String onOneLine(String text) {
        return text.replaceAll("\\s+", " ").trim();
    }

    /** Runs the test of a sentence, which must stand in the document. */
    static void says(String words, Runnable test) {
        int start = DOCUMENT.indexOf(onOneLine(words));
        Due.about(words);
        Due.holds("the document says it", start >= 0);
        for (int i = Math.max(0, start); start >= 0 && i < start + onOneLine(words).length(); i++) {
            QUOTED[i] = true;
        }
        int before = Due.asked();
        test.run();
        Due.holds("something is asked", Due.asked() > before);
        Due.about("");
    }

    /** Of each promise, sentences must be quoted up to its end. */
    static void everyPromiseIsQuoted(int promises) {
        Matcher heading = Pattern.compile("## (Promise (\\d+): \\w[\\w ]*?) (`.*?`: )").matcher(DOCUMENT);
        int found = 0;
        while (heading.find()) {
            found++;
            Due.is("the promises' order", Integer.parseInt(heading.group(2)), found);
            int end = DOCUMENT.indexOf(" ## ", heading.end());
            for (int i = heading.end(); i < end; i++) {
                if (Character.isLetterOrDigit(DOCUMENT.charAt(i)) && !QUOTED[i]) {
                    Due.holds(heading.group(1) + ": a test for '" + DOCUMENT.substring(i, end) + "'", false);
                    break;
                }
            }
        }
        Due.is("promises", found, promises);
    }

    /** What no test quotes, for who looks for what is still to be tested. */
    static void tellTheRest() {
        int start = -1;
        for (int i = 0; i <= QUOTED.length; i++) {
            boolean isOpen = i < QUOTED.length && !QUOTED[i];
            if (isOpen && start < 0) start = i;
            if (!isOpen && start >= 0) {
                String rest = DOCUMENT.substring(start, i).trim();
                if (rest.length() > 3) System.out.println("-- " + rest);
                start = -1;
            }
        }
    }
}
