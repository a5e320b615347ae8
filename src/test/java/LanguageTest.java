import java.io.IOException;
import java.lang.reflect.Constructor;
import java.lang.reflect.Field;
import java.lang.reflect.Method;
import java.lang.reflect.Modifier;
import java.nio.file.Files;
import java.nio.file.Path;
import java.util.ArrayList;
import java.util.Arrays;
import java.util.List;
import java.util.TreeSet;
import java.util.regex.Matcher;
import java.util.regex.Pattern;

/** The face is the document's, and the class keeps to what ../shared/LANGUAGE.md leaves of Java. */
public final class LanguageTest {
    private static final Path SOURCE = Path.of("src/main/java/HiredToWait.java");
    private static final Path DOCUMENT = Path.of("../shared/DOC.md");
    private static final String[] FORBIDDEN = {
        "\\bthrow\\b", "\\btry\\b", "\\bcatch\\b", "\\bsynchronized\\b", "\\bassert\\b", "->", "::", "\\bimport\\b",
        "\\bpackage\\b", "\\bprotected\\b", "Exact\\b", "\\bSystem\\.(?!arraycopy)", "\\bThread\\b", "\\bnull\\b"};

    public static void main(String[] args) throws IOException {
        String source = bare(Files.readString(SOURCE));
        for (String word : FORBIDDEN) {
            Due.holds("none of " + word, !Pattern.compile(word).matcher(source).find());
        }
        face(Files.readString(DOCUMENT));
        members();
        nested();
        lengths(source);
        Due.end();
    }

    /** Without comments and texts. */
    private static String bare(String source) {
        String withoutTexts = source.replaceAll("\"[^\"\\n]*\"", "\"\"").replaceAll("'[^'\\n]+'", "0");
        return withoutTexts.replaceAll("(?s)/\\*.*?\\*/", "").replaceAll("//[^\\n]*", "");
    }

    private static void face(String document) {
        TreeSet<String> due = new TreeSet<>();
        Matcher line = Pattern.compile("(?m)^    public (int|long) (\\w+)\\((.*)\\);$").matcher(document);
        while (line.find()) {
            String types = line.group(3).replaceAll("\\b(int|long) \\w+", "$1").replace(" ", "");
            due.add(line.group(1) + " " + line.group(2) + "(" + types + ")");
        }
        TreeSet<String> got = new TreeSet<>();
        for (Method m : HiredToWait.class.getDeclaredMethods()) {
            if (Modifier.isPrivate(m.getModifiers())) continue;
            String types = Arrays.toString(m.getParameterTypes()).replaceAll("[\\[\\] ]", "");
            got.add(m.getReturnType() + " " + m.getName() + "(" + types + ")");
            Due.holds(m.getName() + " is public", m.getModifiers() == Modifier.PUBLIC);
        }
        Due.is("calls in the document", due.size(), 37);
        Due.holds("the face is " + due + ", and not " + got, due.equals(got));
    }

    private static void members() {
        TreeSet<String> open = new TreeSet<>();
        for (Method m : HiredToWait.class.getDeclaredMethods()) {
            if (Modifier.isPublic(m.getModifiers())) open.add(m.getName());
        }
        for (Method m : HiredToWait.class.getDeclaredMethods()) {
            if (Modifier.isPrivate(m.getModifiers())) Due.holds(m.getName() + " is a name of its own", !open.contains(m.getName()));
        }
        for (Field f : HiredToWait.class.getDeclaredFields()) {
            boolean isNone = f.getName().equals("NONE");
            Due.holds(f.getName() + " is hidden", isNone || Modifier.isPrivate(f.getModifiers()));
        }
        Constructor<?>[] constructors = HiredToWait.class.getDeclaredConstructors();
        Due.is("constructors", constructors.length, 1);
        Due.is("the constructor's parameters", constructors[0].getParameterCount(), 0);
        Due.is("the class", HiredToWait.class.getModifiers(), Modifier.PUBLIC | Modifier.FINAL);
        Due.is("NONE", HiredToWait.NONE, -1);
    }

    private static void nested() {
        List<Class<?>> classes = new ArrayList<>(Arrays.asList(HiredToWait.class.getDeclaredClasses()));
        Due.holds("few classes", classes.size() < 12);
        classes.add(HiredToWait.class);
        for (Class<?> c : classes) {
            if (c != HiredToWait.class) Due.holds(c + " is static", Modifier.isStatic(c.getModifiers()));
            int fields = 0;
            for (Field f : c.getDeclaredFields()) {
                if (Modifier.isStatic(f.getModifiers())) {
                    Due.holds(f + " is final", Modifier.isFinal(f.getModifiers()));
                } else {
                    fields++;
                }
            }
            Due.holds(c + " has few fields", fields <= 20);
            for (Method m : c.getDeclaredMethods()) {
                Due.holds(m + " has few parameters", m.getParameterCount() <= 7);
            }
        }
    }

    private static void lengths(String source) {
        int start = -1;
        String[] lines = source.split("\n");
        for (int i = 0; i < lines.length; i++) {
            if (lines[i].matches("(    |        )[a-zA-Z].*\\) \\{")) start = i;
            if (start >= 0 && lines[i].matches("(    |        )}")) {
                Due.holds("lines at " + (start + 1), i - start < 60);
                start = -1;
            }
        }
    }
}
