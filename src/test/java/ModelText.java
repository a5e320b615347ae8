import java.util.ArrayList;
import java.util.List;
import java.util.regex.Matcher;
import java.util.regex.Pattern;

/** A guild read from a text by patterns: first how far its letters can stand, then the numbers and words so far. */
final class ModelText {
    private static final int NONE = -1;
    private static final String ITEM =
        "(?:thing(?: \\d{1,2}){7}|waiter(?: \\d{1,2}){5}|moves(?: \\d{1,2}){2}|hope \\d{1,2})";
    private static final Pattern WHOLE = Pattern.compile(ITEM + "(?:;" + ITEM + ")*");
    private static final Pattern WORD = Pattern.compile("[a-z]+|[0-9]+");

    int fault = NONE;
    int items = 0;
    Model.Truth truth;

    ModelText(String letters, Model.Truth there) {
        truth = there;
        int end = letters.length();
        while (!mayBegin(letters.substring(0, end))) {
            end--;
        }
        boolean isWhole = WHOLE.matcher(letters).matches();
        int start = 0;
        for (String item : letters.substring(0, end).split(";", -1)) {
            if (fault == NONE) read(item, start);
            start += item.length() + 1;
            items++;
        }
        if (fault == NONE && !isWhole) fault = end;
    }

    private static boolean mayBegin(String letters) {
        Matcher matcher = WHOLE.matcher(letters);
        return matcher.matches() || matcher.hitEnd();
    }

    /** The words of an item, of which the last may be cut off. */
    private void read(String item, int start) {
        Matcher word = WORD.matcher(item);
        String name = "";
        List<Integer> numbers = new ArrayList<>();
        while (word.find() && fault == NONE) {
            boolean stands;
            if (Character.isDigit(word.group().charAt(0))) {
                numbers.add(Integer.parseInt(word.group()));
                stands = mayBe(name, numbers);
            } else {
                name = word.group();
                stands = !(name.equals("thing") && truth.things().size() == 8)
                    && !(name.equals("waiter") && truth.men().size() == 6);
            }
            if (!stands) fault = start + word.start();
        }
        if (fault == NONE) tell(name, numbers);
    }

    /** Of the last of the numbers. */
    private boolean mayBe(String name, List<Integer> numbers) {
        int i = numbers.size() - 1;
        int v = numbers.get(i);
        switch (name) {
            case "thing":
                int least = i == 2 ? numbers.get(1) : 0;
                return v >= least && v <= new int[] {9, 23, 23, 9, 99, 9, 20}[i];
            case "waiter":
                return v >= new int[] {0, 0, 1, 1, 0}[i] && v <= new int[] {6, 9, 9, 24, 9}[i];
            case "moves":
                return i == 0 ? v < truth.men().size() : v <= 9;
            default:
                return v <= 9;
        }
    }

    private void tell(String name, List<Integer> n) {
        if (name.equals("thing") && n.size() == 7) {
            truth = truth.with(new Model.Thing(n.get(0), n.get(1), n.get(2), n.get(3), n.get(4), n.get(5), n.get(6)));
        } else if (name.equals("waiter") && n.size() == 5) {
            truth = truth.with(new Model.Man(n.get(0), n.get(1), n.get(2), n.get(3), n.get(4)));
        } else if (name.equals("moves") && n.size() == 2) {
            truth = truth.with(n.get(0), truth.men().get(n.get(0)).movedTo(n.get(1)));
        } else if (name.equals("hope") && n.size() == 1) {
            truth = truth.withHope(n.get(0));
        }
    }
}
