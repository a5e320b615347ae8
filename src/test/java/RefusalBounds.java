import java.util.ArrayList;
import java.util.List;

/** Refusals: what each call answers, which comes first, and that nothing changes but how many there were. */
final class RefusalBounds {
    private static final int ROW = 0;
    private static final int MAN = 1;
    private static final int NOTHING = 2;
    private static final int OTHER_SORT = 3;
    private static final int LONG_ROW = 4;

    private RefusalBounds() {
    }

    interface Call {
        long on(HiredToWait x);
    }

    static void all() {
        Sentence.says("REFUSALS (the call answers the number; nothing changes but how many there were; "
            + "the first that fits, in this order):", RefusalBounds::inOrder);
        Sentence.says("-1 NOBODY: no such SHELF, WAITER, THING, KIND.", RefusalBounds::nobody);
        Sentence.says("-2 OTHER: a SHELF that holds a WAITER where a ROW is wanted, or the other way about, "
            + "ROWS of two SORTS, a WAITER who isn't of the KIND wanted, or one under it.", RefusalBounds::other);
        Sentence.says("-3 NOTHING: a SHELF that holds NOTHING.", RefusalBounds::nothing);
        Sentence.says("-4 BELOW: a size below 0.", RefusalBounds::below);
        Sentence.says("-5 BEYOND: an element that isn't there; nothing such to be told of.", RefusalBounds::beyond);
        Sentence.says("-6 WRONG: a number that may not be, a FAULT, what can't be as things stand.", RefusalBounds::wrong);
        Sentence.says("-7 ROOM: more than may be.", RefusalBounds::room);
        Sentence.says("WHAT COMES OF IT (nothing is changed)", RefusalBounds::asking);
    }

    /** Two of everything, an image of less, a fault told and a move traced. */
    private static HiredToWait some() {
        HiredToWait x = new HiredToWait();
        x.thing(2, 3, 6, 0, 10, 3, 3);
        x.waiter(1, 2, 3, 4, 5);
        x.ask(4);
        x.days(2);
        x.image();
        x.thing(4, 0, 23, 9, 20, 3, 6);
        x.waiter(6, 5, 4, 3, 2);
        x.move(0, 7);
        x.ask(5);
        x.days(1);
        Due.text(x, ROW, "hope x");
        Due.is("guild", x.guild(ROW), -6);
        Due.row(x, ROW, 2, 3, 102, 99, 3, 24, -1, 0, 0, 0, 0);
        x.show(MAN, 1);
        Due.row(x, OTHER_SORT, 1, 1, 2, 3);
        x.row(LONG_ROW, 2, 160);
        x.act(1, 2, 5);
        return x;
    }

    private static HiredToWait full() {
        HiredToWait x = some();
        for (int t = 2; t < 8; t++) {
            x.thing(t, t, t, t, t, t, t);
        }
        for (int w = 2; w < 6; w++) {
            x.waiter(w, w, w, w, w);
        }
        return x;
    }

    /** All that can be told of an object but how many refusals there were; the object is used up. */
    private static List<Long> stateOf(HiredToWait x) {
        List<Long> state = new ArrayList<>();
        for (int s = 0; s < 8; s++) {
            state.add((long) x.holds(s));
            for (int i = 0; i < 11; i++) {
                state.add(x.element(s, i));
            }
        }
        state.add((long) x.fault());
        for (int i = 0; i < 20; i++) {
            state.add((long) x.trace(i));
        }
        addGuild(x, state);
        state.add((long) x.restore());
        addGuild(x, state);
        return state;
    }

    private static void addGuild(HiredToWait x, List<Long> state) {
        for (int what = 0; what < 8; what++) {
            state.add((long) x.status(what));
        }
        for (int t = 0; t < x.status(1); t++) {
            for (int what = 0; what < 8; what++) {
                state.add((long) x.thingOf(t, what));
            }
        }
        for (int w = 0; w < x.status(0); w++) {
            for (int what = 0; what < 7; what++) {
                state.add((long) x.waiterOf(w, what));
            }
        }
    }

    private static int countOf(HiredToWait x, int refusal) {
        return x.status(10 - refusal);
    }

    /** The call answers this, one more refusal is counted, and all else is as without the call. */
    private static void refuses(HiredToWait x, HiredToWait untouched, int answer, Call call) {
        int refusal = answer < -10 ? answer + 10 : answer;
        int[] counts = new int[8];
        for (int i = 1; i <= 7; i++) {
            counts[i] = countOf(x, -i) + (refusal == -i ? 1 : 0);
        }
        Due.is("the call", call.on(x), answer);
        for (int i = 1; i <= 7; i++) {
            Due.is("refusals -" + i, countOf(x, -i), counts[i]);
        }
        Due.holds("nothing changes by a call refused by " + answer, stateOf(x).equals(stateOf(untouched)));
    }

    private static void refuses(int answer, Call call) {
        refuses(some(), some(), answer, call);
    }

    private static void inOrder() {
        refuses(-1, x -> x.row(8, 4, -1));
        refuses(-4, x -> x.row(ROW, 4, -1));
        refuses(-6, x -> x.row(ROW, 4, 161));
        refuses(-1, x -> x.copy(MAN, 8, -1, -1, -1));
        refuses(-2, x -> x.copy(MAN, NOTHING, -1, -1, -1));
        refuses(-3, x -> x.copy(ROW, NOTHING, -1, -1, -1));
        refuses(-4, x -> x.copy(ROW, LONG_ROW, -1, -1, -1));
        refuses(-5, x -> x.copy(ROW, LONG_ROW, -1, -1, 161));
        refuses(-1, x -> x.says(ROW, 7));
        refuses(-2, x -> x.says(ROW, 0));
        refuses(-1, x -> x.waiter(7, 10, 0, 0, 10));
        refuses(-1, x -> x.move(2, 10));
        refuses(-1, x -> x.cost(2, 25));
        refuses(-1, x -> x.by(2, 24));
        refuses(-11, x -> x.stop(2, 2, 2));
        refuses(-11, x -> x.rota(2, 2));
        refuses(-1, x -> x.seen(2, 2));
        refuses(-1, x -> x.met(2, 2));
        refuses(-5, x -> x.runners(9, 2));
        refuses(-1, x -> x.left(8, -1));
        refuses(-2, x -> x.left(MAN, -1));
        refuses(-3, x -> x.left(NOTHING, -1));
        refuses(-5, x -> x.left(ROW, 41));
        refuses(-12, x -> x.judge(MAN, -1));
        refuses(-13, x -> x.judge(NOTHING, 9));
        refuses(-15, x -> x.judge(ROW, 11));
        refuses(-4, x -> x.behind(ROW, -1, 3));
        refuses(-5, x -> x.behind(ROW, 9, 3));
        refuses(-3, x -> x.done(NOTHING, -1));
        refuses(-5, x -> x.done(ROW, 11));
        refuses(full(), full(), -1, x -> x.waiter(7, 10, 0, 0, 10));
        refuses(full(), full(), -6, x -> x.waiter(0, 10, 0, 0, 10));
        refuses(full(), full(), -6, x -> x.thing(10, 0, 0, 0, 0, 0, 0));
    }

    private static void nobody() {
        refuses(-1, x -> x.row(-1, 0, 1));
        refuses(-1, x -> x.set(8, 0, 1));
        refuses(-1, x -> x.copy(8, ROW, 0, 0, 1));
        refuses(-1, x -> x.show(8, 0));
        refuses(-1, x -> x.show(ROW, 2));
        refuses(-1, x -> x.says(8, 0));
        refuses(-1, x -> x.says(MAN, 7));
        refuses(-1, x -> x.waiter(7, 1, 1, 1, 1));
        refuses(-1, x -> x.move(2, 1));
        refuses(-1, x -> x.cost(2, 1));
        refuses(-1, x -> x.guild(8));
        refuses(-1, x -> x.by(2, 1));
        refuses(-11, x -> x.stop(2, 0, 0));
        refuses(-11, x -> x.stop(0, 2, 1));
        refuses(-11, x -> x.best(2));
        refuses(-1, x -> x.lookouts(2));
        refuses(-11, x -> x.rota(2, 0));
        refuses(-1, x -> x.seen(2, 0));
        refuses(-1, x -> x.met(2, 0));
        refuses(-1, x -> x.left(8, 0));
        refuses(-11, x -> x.judge(8, 0));
        refuses(-1, x -> x.behind(8, 0, 0));
        refuses(-1, x -> x.done(8, 0));
    }

    private static void other() {
        refuses(-2, x -> x.set(MAN, 0, 1));
        refuses(-2, x -> x.copy(MAN, ROW, 0, 0, 0));
        refuses(-2, x -> x.copy(ROW, MAN, 0, 0, 0));
        refuses(-2, x -> x.copy(ROW, OTHER_SORT, 0, 0, 0));
        refuses(-2, x -> x.says(ROW, 0));
        refuses(-2, x -> x.says(MAN, 1));
        refuses(-2, x -> x.guild(MAN));
        refuses(-2, x -> x.left(MAN, 0));
        refuses(-12, x -> x.judge(MAN, 0));
        refuses(-2, x -> x.behind(MAN, 0, 0));
        refuses(-2, x -> x.done(MAN, 0));
    }

    private static void nothing() {
        refuses(-3, x -> x.set(NOTHING, 0, 1));
        refuses(-3, x -> x.copy(NOTHING, ROW, 0, 0, 0));
        refuses(-3, x -> x.copy(ROW, NOTHING, 0, 0, 0));
        refuses(-3, x -> x.says(NOTHING, 0));
        refuses(-3, x -> x.guild(NOTHING));
        refuses(-3, x -> x.left(NOTHING, 0));
        refuses(-13, x -> x.judge(NOTHING, 0));
        refuses(-3, x -> x.behind(NOTHING, 0, 0));
        refuses(-3, x -> x.done(NOTHING, 0));
    }

    private static void below() {
        refuses(-4, x -> x.row(ROW, 0, -1));
        refuses(-4, x -> x.copy(ROW, LONG_ROW, 0, 0, -1));
        refuses(-4, x -> x.left(ROW, -1));
        refuses(-14, x -> x.judge(ROW, -1));
        refuses(-4, x -> x.behind(ROW, -1, 0));
        refuses(-4, x -> x.done(ROW, -1));
    }

    private static void beyond() {
        refuses(-5, x -> x.set(ROW, 10, 1));
        refuses(-5, x -> x.set(ROW, -1, 1));
        refuses(-5, x -> x.copy(ROW, LONG_ROW, 0, 0, 11));
        refuses(-5, x -> x.copy(LONG_ROW, ROW, 0, 0, 11));
        refuses(-5, x -> x.thingOf(2, 0));
        refuses(-5, x -> x.thingOf(0, 8));
        refuses(-5, x -> x.waiterOf(2, 0));
        refuses(-5, x -> x.waiterOf(0, 7));
        refuses(-15, x -> x.stop(0, 0, 2));
        refuses(-15, x -> x.rota(0, 2));
        refuses(-15, x -> x.posts(2));
        refuses(-5, x -> x.seen(0, 2));
        refuses(-5, x -> x.met(0, 2));
        refuses(-5, x -> x.runners(0, 2));
        refuses(-5, x -> x.left(OTHER_SORT, 4));
        refuses(-15, x -> x.judge(OTHER_SORT, 4));
        refuses(-5, x -> x.behind(OTHER_SORT, 4, 0));
        refuses(-5, x -> x.behind(ROW, 1, 3));
        refuses(-5, x -> x.done(OTHER_SORT, 4));
    }

    private static void wrong() {
        refuses(-6, x -> x.row(ROW, 4, 1));
        refuses(-6, x -> x.thing(0, 1, 0, 0, 0, 0, 0));
        refuses(-6, x -> x.waiter(0, 0, 0, 1, 0));
        refuses(-6, x -> x.move(0, 10));
        refuses(-6, x -> x.ask(10));
        refuses(-6, x -> x.cost(0, 25));
        refuses(-6, x -> x.by(0, 24));
        refuses(-6, x -> x.runners(9, 0));
        refuses(-6, x -> x.left(LONG_ROW, 41));
        refuses(-6, x -> x.left(ROW, 2));
        refuses(-6, x -> x.await(24));
        refuses(-16, x -> x.judge(ROW, 9));
        refuses(-6, x -> x.behind(ROW, 9, 0));
        refuses(-6, x -> x.behind(ROW, 3, 0));
        refuses(-6, x -> x.done(ROW, 9));
        refuses(-6, x -> x.done(ROW, 3));
        refuses(-6, x -> x.days(61));
        HiredToWait noImage = new HiredToWait();
        refuses(noImage, new HiredToWait(), -6, x -> x.restore());
        // the fault is told, and nothing of the text
        HiredToWait faulty = some();
        Due.text(faulty, NOTHING, "hope 9;thing 0 0 0 0 0 0 0;waiter 0 0 1 1 0;moves 0 9;hope x");
        HiredToWait same = some();
        Due.text(same, NOTHING, "hope 9;thing 0 0 0 0 0 0 0;waiter 0 0 1 1 0;moves 0 9;hope x");
        Due.is("a fault", faulty.guild(NOTHING), -6);
        Due.is("is told", faulty.fault(), 59);
        Due.text(faulty, 7, "hope x");
        Due.is("the fault there was", faulty.guild(7), -6);
        Due.text(same, 7, "hope x");
        Due.holds("nothing of the text", stateOf(faulty).equals(stateOf(same)));
    }

    private static void room() {
        refuses(-7, x -> x.row(ROW, 0, 161));
        refuses(full(), full(), -7, x -> x.thing(0, 0, 0, 0, 0, 0, 0));
        refuses(full(), full(), -7, x -> x.waiter(0, 0, 1, 1, 0));
    }

    private static void asking() {
        HiredToWait x = some();
        for (int what = 0; what < 2; what++) {
            x.stop(1, 1, what);
            x.posts(what);
            x.seen(1, what);
            x.met(1, what);
            x.runners(2, what);
            x.rota(1, what);
            x.behind(ROW, 2, what);
        }
        x.behind(ROW, 2, 2);
        x.rota(1, -1);
        x.best(1);
        x.lookouts(1);
        x.by(1, 5);
        x.cost(1, 5);
        x.left(ROW, 1);
        x.await(5);
        x.await(-1);
        x.judge(ROW, 3);
        x.says(MAN, 6);
        Due.is("none of them is refused", x.status(11) + x.status(12) + x.status(13) + x.status(14) + x.status(15), 0);
        Due.holds("nothing changes", stateOf(x).equals(stateOf(some())));
    }
}
