/** The bounds that the document names of shelves, of the image and of what is told of all; promises 2 to 8, 36 to 38. */
final class ShelfBounds {
    private static final int NONE = HiredToWait.NONE;

    private ShelfBounds() {
    }

    static void all() {
        shelves();
        rows();
        bits();
        copies();
        elements();
        waiters();
        image();
        status();
    }

    private static void shelves() {
        Sentence.says("SHELVES 0 to 7 hold NOTHING (at first), a ROW, or a WAITER.", () -> {
            HiredToWait x = new HiredToWait();
            x.waiter(0, 0, 1, 1, 0);
            for (int s = 0; s < 8; s++) {
                Due.is("nothing", x.holds(s), NONE);
                Due.is("a row", x.row(s, 1, 2), 1);
                Due.is("held", x.holds(s), 101);
                Due.is("a waiter", x.show(s, 0), 1);
                Due.is("held", x.holds(s), 0);
                Due.is("nothing", x.show(s, NONE), 0);
                Due.is("held", x.holds(s), NONE);
            }
            int[] none = {-1, 8, Integer.MIN_VALUE, Integer.MAX_VALUE};
            for (int s : none) {
                Due.is("no row", x.row(s, 0, 0), -1);
                Due.is("no waiter", x.show(s, 0), -1);
                Due.is("not nothing", x.show(s, NONE), -1);
                Due.is("held", x.holds(s), NONE);
            }
        });
        Sentence.says("What SHELF s holds: NONE NOTHING, or no such SHELF; a WAITER's number; 100 and the SORT of a ROW.", () -> {
            HiredToWait x = new HiredToWait();
            for (int w = 0; w < 6; w++) {
                x.waiter(0, 0, 1, 1, 0);
                x.show(7, w);
                Due.is("waiter " + w, x.holds(7), w);
            }
            for (int sort = 0; sort < 4; sort++) {
                x.row(0, sort, 0);
                Due.is("sort " + sort, x.holds(0), 100 + sort);
            }
            Due.is("nothing", x.holds(1), NONE);
            Due.is("shelf 8", x.holds(8), NONE);
            Due.is("shelf -1", x.holds(-1), NONE);
            Due.refused(x, 0, 0, 0, 0, 0, 0, 0);
        });
    }

    private static void rows() {
        Sentence.says("A ROW has a SORT (0 bytes, 1 shorts, 2 ints, 3 longs) and 0 to 160 elements, 0 at first;", () -> {
            HiredToWait x = new HiredToWait();
            Due.is("sort -1", x.row(0, -1, 1), -6);
            Due.is("sort 4", x.row(0, 4, 1), -6);
            Due.is("none of them", x.holds(0), NONE);
            for (int sort = 0; sort < 4; sort++) {
                Due.is("no elements", x.row(sort, sort, 0), 1);
                Due.is("has none", x.set(sort, 0, 1), -5);
                Due.is("160", x.row(sort, sort, 160), 1);
                Due.is("the last", x.element(sort, 159), 0);
                Due.is("put in", x.set(sort, 159, 7), 1);
                Due.is("none behind it", x.set(sort, 160, 7), -5);
                Due.is("161", x.row(sort, sort, 161), -7);
                Due.is("-1", x.row(sort, sort, -1), -4);
                Due.is("still there", x.element(sort, 159), 7);
            }
            for (int i = 0; i < 160; i++) {
                Due.is("0 at first", x.element(0, i), i == 159 ? 7 : 0);
            }
        });
        Sentence.says("SHELF s holds a new ROW: 1. -1; -4; -6 SORT; -7 n above 160.", () -> {
            HiredToWait x = new HiredToWait();
            x.row(0, 3, 160);
            x.set(0, 0, 5);
            x.set(0, 159, 5);
            Due.is("new", x.row(0, 3, 160), 1);
            Due.is("its first", x.element(0, 0), 0);
            Due.is("its last", x.element(0, 159), 0);
            x.set(0, 1, 5);
            x.row(0, 3, 1);
            Due.is("shorter", x.set(0, 1, 5), -5);
            x.row(0, 3, 2);
            Due.is("new again", x.element(0, 1), 0);
            Due.is("no shelf, -1, sort 4", x.row(8, 4, -1), -1);
            Due.is("-1, sort 4", x.row(0, 4, -1), -4);
            Due.is("sort 4, 161", x.row(0, 4, 161), -6);
            Due.is("161", x.row(0, 0, 161), -7);
            Due.is("far more", x.row(0, 0, Integer.MAX_VALUE), -7);
            Due.is("far less", x.row(0, 0, Integer.MIN_VALUE), -4);
            Due.is("still there", x.holds(0), 103);
            Due.refused(x, 1, 0, 0, 2, 1, 1, 2);
        });
    }

    private static void kept(int sort, long v, long due) {
        HiredToWait x = new HiredToWait();
        x.row(0, sort, 1);
        Due.is("set", x.set(0, 0, v), 1);
        Due.is("sort " + sort + " keeps of " + v, x.element(0, 0), due);
    }

    private static void bits() {
        Sentence.says("what is put in keeps its lowest bits.", () -> {
            kept(0, 127, 127);
            kept(0, 128, -128);
            kept(0, 255, -1);
            kept(0, 256, 0);
            kept(0, -129, 127);
            kept(1, 32767, 32767);
            kept(1, 32768, -32768);
            kept(1, 65536, 0);
            kept(1, -32769, 32767);
            kept(2, Integer.MAX_VALUE, Integer.MAX_VALUE);
            kept(2, 1L << 31, Integer.MIN_VALUE);
            kept(2, 1L << 32, 0);
            kept(2, Integer.MIN_VALUE - 1L, Integer.MAX_VALUE);
            kept(3, Long.MAX_VALUE, Long.MAX_VALUE);
            kept(3, Long.MIN_VALUE, Long.MIN_VALUE);
        });
        Sentence.says("All is read as ints (of longs the lowest 32 bits).", () -> {
            HiredToWait x = new HiredToWait();
            x.thing(0, 0, 0, 0, 0, 0, 0);
            Due.row(x, 0, 3, 1L << 32, 1L << 31);
            Due.is("0", x.left(0, 1), 1);
            Due.is("below 0", x.left(0, 2), -6);
            Due.row(x, 0, 2, 1 << 16);
            Due.is("of ints all", x.left(0, 1), -6);
            Due.row(x, 0, 1, 1 << 16);
            Due.is("of shorts 16 bits", x.left(0, 1), 1);
            Due.row(x, 0, 0, 1 << 8);
            Due.is("of bytes 8 bits", x.left(0, 1), 1);
        });
        Sentence.says("Element i of the ROW becomes v: 1. -1; -2; -3; -5.", () -> {
            HiredToWait x = new HiredToWait();
            x.waiter(0, 0, 1, 1, 0);
            x.row(0, 0, 3);
            x.show(1, 0);
            Due.is("0", x.set(0, 0, 4), 1);
            Due.is("2", x.set(0, 2, 5), 1);
            Due.is("3", x.set(0, 3, 6), -5);
            Due.is("-1", x.set(0, -1, 6), -5);
            Due.is("far", x.set(0, Integer.MAX_VALUE, 6), -5);
            Due.is("nothing", x.set(2, 3, 6), -3);
            Due.is("a waiter", x.set(1, 3, 6), -2);
            Due.is("shelf 8", x.set(8, 3, 6), -1);
            Due.is("shelf -1", x.set(-1, 0, 6), -1);
            rowIs(x, 0, 4, 0, 5, 0);
            Due.refused(x, 2, 1, 1, 0, 3, 0, 0);
        });
    }

    private static void rowIs(HiredToWait x, int s, long... due) {
        for (int i = 0; i < due.length; i++) {
            Due.is("element " + i + " of " + s, x.element(s, i), due[i]);
        }
    }

    private static void copies() {
        Sentence.says("Elements i, i + 1, .. of the ROW in SHELF p, n of them, come to elements j, j + 1, .. of that in q", () -> {
            HiredToWait x = new HiredToWait();
            Due.row(x, 0, 3, 1, 2, Long.MIN_VALUE);
            Due.row(x, 1, 3, 7, 8, 9, 10);
            Due.is("none", x.copy(0, 1, 0, 0, 0), 1);
            Due.is("none at the ends", x.copy(0, 1, 3, 4, 0), 1);
            rowIs(x, 1, 7, 8, 9, 10, 0);
            Due.is("the last to the last", x.copy(0, 1, 2, 3, 1), 1);
            rowIs(x, 1, 7, 8, 9, Long.MIN_VALUE);
            Due.is("all", x.copy(0, 1, 0, 0, 3), 1);
            rowIs(x, 1, 1, 2, Long.MIN_VALUE, Long.MIN_VALUE);
            rowIs(x, 0, 1, 2, Long.MIN_VALUE);
            x.row(0, 0, 160);
            x.row(1, 0, 160);
            x.set(0, 159, 4);
            Due.is("the most", x.copy(0, 1, 0, 0, 160), 1);
            Due.is("its last", x.element(1, 159), 4);
            x.row(0, 0, 0);
            Due.is("none of none", x.copy(0, 0, 0, 0, 0), 1);
        });
        Sentence.says("(as they were ahead): 1.", () -> {
            HiredToWait x = new HiredToWait();
            Due.row(x, 0, 1, 1, 2, 3, 4, 5);
            Due.is("upward", x.copy(0, 0, 0, 1, 4), 1);
            rowIs(x, 0, 1, 1, 2, 3, 4);
            Due.is("downward", x.copy(0, 0, 2, 0, 3), 1);
            rowIs(x, 0, 2, 3, 4, 3, 4);
            Due.is("in place", x.copy(0, 0, 0, 0, 5), 1);
            rowIs(x, 0, 2, 3, 4, 3, 4);
        });
        Sentence.says("-1; -2 also of two SORTS (when both hold something); -3 either; -4 n; "
            + "-5 i or j below 0, or an end that isn't there.", () -> {
            HiredToWait x = new HiredToWait();
            x.waiter(0, 0, 1, 1, 0);
            Due.row(x, 0, 1, 1, 2, 3);
            Due.row(x, 1, 1, 7, 8);
            x.row(2, 2, 3);
            x.show(3, 0);
            Due.is("shelf p 8", x.copy(8, 3, -1, -1, -1), -1);
            Due.is("shelf q -1", x.copy(3, -1, -1, -1, -1), -1);
            Due.is("waiter p", x.copy(3, 1, -1, -1, -1), -2);
            Due.is("waiter q", x.copy(1, 3, -1, -1, -1), -2);
            Due.is("two sorts", x.copy(0, 2, -1, -1, -1), -2);
            Due.is("nothing q, no sort of its own", x.copy(2, 4, -1, -1, -1), -3);
            Due.is("nothing p", x.copy(4, 0, -1, -1, -1), -3);
            Due.is("nothing both", x.copy(4, 5, 0, 0, 0), -3);
            Due.is("n -1", x.copy(0, 1, -1, -1, -1), -4);
            Due.is("i -1", x.copy(0, 1, -1, 0, 1), -5);
            Due.is("j -1", x.copy(0, 1, 0, -1, 1), -5);
            Due.is("i -1, none", x.copy(0, 1, -1, 0, 0), -5);
            Due.is("j -1, none", x.copy(0, 1, 0, -1, 0), -5);
            Due.is("end of p", x.copy(1, 0, 1, 0, 2), -5);
            Due.is("end of q", x.copy(0, 1, 0, 1, 2), -5);
            Due.is("end of p, none", x.copy(0, 1, 4, 0, 0), -5);
            Due.is("end of q, none", x.copy(0, 1, 0, 3, 0), -5);
            Due.is("an end that wraps", x.copy(0, 1, Integer.MAX_VALUE, 0, Integer.MAX_VALUE), -5);
            Due.is("an end that wraps to 0", x.copy(0, 1, 1, 1, Integer.MAX_VALUE), -5);
            rowIs(x, 0, 1, 2, 3);
            rowIs(x, 1, 7, 8);
            Due.refused(x, 2, 3, 3, 1, 10, 0, 0);
        });
    }

    private static void elements() {
        Sentence.says("Element i of the ROW; 0 if there is none (nothing is refused).", () -> {
            HiredToWait x = new HiredToWait();
            x.waiter(0, 0, 1, 1, 0);
            Due.row(x, 0, 2, 5, 6);
            x.show(1, 0);
            rowIs(x, 0, 5, 6, 0);
            Due.is("-1", x.element(0, -1), 0);
            Due.is("159", x.element(0, 159), 0);
            Due.is("160", x.element(0, 160), 0);
            Due.is("far", x.element(0, Integer.MAX_VALUE), 0);
            Due.is("far below", x.element(0, Integer.MIN_VALUE), 0);
            Due.is("a waiter's", x.element(1, 0), 0);
            Due.is("nothing's", x.element(2, 0), 0);
            Due.is("shelf 8", x.element(8, 0), 0);
            Due.is("shelf -1", x.element(-1, 0), 0);
            x.show(0, 0);
            Due.is("no more of the row", x.element(0, 0), 0);
            Due.refused(x, 0, 0, 0, 0, 0, 0, 0);
        });
    }

    private static void waiters() {
        Sentence.says("SHELF s holds a WAITER, or NOTHING (waiter NONE): 1, 0. -1.", () -> {
            HiredToWait x = new HiredToWait();
            Due.is("nobody", x.show(0, 0), -1);
            Due.is("nothing", x.show(0, NONE), 0);
            x.waiter(0, 0, 1, 1, 0);
            Due.is("a waiter", x.show(0, 0), 1);
            Due.is("waiter 1", x.show(0, 1), -1);
            Due.is("waiter -2", x.show(0, -2), -1);
            Due.is("shelf 8", x.show(8, 0), -1);
            Due.is("shelf -1", x.show(-1, NONE), -1);
            Due.is("still held", x.holds(0), 0);
            x.row(1, 0, 1);
            Due.is("ahead of a row", x.show(1, 0), 1);
            Due.is("no row then", x.set(1, 0, 0), -2);
            x.row(1, 0, 1);
            Due.is("nothing ahead of a row", x.show(1, NONE), 0);
            Due.is("no row then", x.set(1, 0, 0), -3);
            Due.refused(x, 5, 1, 1, 0, 0, 0, 0);
        });
        Sentence.says("-1 SHELF, KIND; -2 also a WAITER of another KIND; -3.", () -> {
            HiredToWait x = new HiredToWait();
            x.waiter(1, 0, 1, 1, 4);
            x.show(0, 0);
            x.row(1, 0, 0);
            Due.is("his own kind", x.says(0, 1), 1);
            Due.is("the one above", x.says(0, 0), 4);
            Due.is("one under it", x.says(0, 3), -2);
            Due.is("one beside it", x.says(0, 2), -2);
            Due.is("a row", x.says(1, 0), -2);
            Due.is("nothing", x.says(2, 0), -3);
            Due.is("a row, kind 7", x.says(1, 7), -1);
            Due.is("nothing, kind -1", x.says(2, -1), -1);
            Due.is("shelf 8", x.says(8, 0), -1);
            Due.is("shelf -1", x.says(-1, 7), -1);
            Due.refused(x, 4, 3, 1, 0, 0, 0, 0);
        });
        Sentence.says("What the WAITER in SHELF s, taken for one of a KIND, says: WAITER where he is AT; "
            + "MASTER, ENDLESS his PATIENCE; LOVER, RELIEVER his a; APPRENTICE, HOPER his PAY.", () -> {
            int[][] due = {{9, 24, 0, 24, 1, 0, 1}, {0, 1, 9, 1, 9, 9, 9}};
            int[] above = {0, 0, 0, 1, 0, 2, 4};
            for (int kind = 0; kind < 7; kind++) {
                HiredToWait x = new HiredToWait();
                x.waiter(kind, 0, 1, 24, 9);
                x.waiter(kind, 9, 9, 1, 0);
                for (int w = 0; w < 2; w++) {
                    x.show(w, w);
                    Due.is("as his own kind", x.says(w, kind), due[w][kind]);
                    Due.is("as the kind above", x.says(w, above[kind]), due[w][above[kind]]);
                    Due.is("as a waiter", x.says(w, 0), due[w][0]);
                }
            }
        });
    }

    private static void image() {
        Sentence.says("THE IMAGE of all but SHELVES (and THE IMAGE, REFUSALS, the FAULT, THE TRACE) is taken: "
            + "how many WAITERS.", () -> {
            HiredToWait x = new HiredToWait();
            Due.is("of nobody", x.image(), 0);
            for (int w = 0; w < 6; w++) {
                x.waiter(0, 0, 1, 1, w);
            }
            Due.is("of all", x.image(), 6);
            Due.text(x, 0, "hope x");
            x.guild(0);
            x.act(0, 0, 5);
            x.days(0);
            Due.is("restored", x.restore(), 6);
            Due.is("the row stays", x.element(0, 0), 'h');
            Due.is("the refusals stay", x.status(16), 2);
            Due.is("the fault stays", x.fault(), 5);
            Due.is("the trace stays", x.trace(0), 10);
            Due.is("the count of bodies stays", x.status(7), 1);
            Due.is("the image stays", x.restore(), 6);
        });
        Sentence.says("All is as THE IMAGE has it;", () -> {
            HiredToWait x = new HiredToWait();
            x.image();
            x.thing(1, 2, 3, 4, 5, 6, 6);
            x.waiter(1, 2, 3, 4, 5);
            x.ask(0);
            x.days(2);
            Due.is("nobody", x.restore(), 0);
            int[] first = {0, 0, 1, 0, 0, 0, 1};
            for (int what = 0; what < first.length; what++) {
                Due.is("status " + what, x.status(what), first[what]);
            }
            Due.is("no thing", x.thingOf(0, 0), -5);
            Due.is("no waiter", x.waiterOf(0, 0), -5);
            Due.is("numbers from 0 on", x.thing(9, 9, 9, 9, 9, 9, 9), 0);
            Due.is("numbers from 0 on", x.waiter(6, 6, 6, 6, 6), 0);
            Due.is("as it was told", x.thingOf(0, 0), 9);
            Due.is("as he was told", x.waiterOf(0, 0), 6);
        });
        Sentence.says("SHELVES with WAITERS hold those of these numbers, or NOTHING: how many WAITERS. -6 there is none.", () -> {
            HiredToWait x = new HiredToWait();
            Due.is("no image", x.restore(), -6);
            x.waiter(0, 0, 1, 1, 4);
            x.image();
            x.waiter(1, 0, 1, 1, 5);
            x.move(0, 8);
            for (int s = 0; s < 8; s++) {
                x.show(s, s % 2);
            }
            x.row(6, 2, 3);
            Due.is("one", x.restore(), 1);
            for (int s = 0; s < 8; s++) {
                Due.is("shelf " + s, x.holds(s), s == 6 ? 102 : s % 2 == 0 ? 0 : NONE);
            }
            Due.is("who says where he was", x.says(0, 0), 4);
            x.waiter(1, 0, 1, 1, 5);
            Due.is("nothing still", x.holds(1), NONE);
            Due.refused(x, 0, 0, 0, 0, 0, 1, 0);
        });
    }

    private static void status() {
        Sentence.says("How many: 0 WAITERS, 1 THINGS, 2 HOPE, 3 DAYS, 4 TAKINGS, 5 WAGES, 6 SEED, "
            + "7 bodies that ran in the latest act() (all, kept or not); 11 to 17: REFUSALS -1 to -7. "
            + "NONE for another what.", () -> {
            HiredToWait x = new HiredToWait();
            x.thing(0, 0, 0, 0, 8, 0, 0);
            x.thing(0, 0, 0, 0, 0, 0, 0);
            x.waiter(0, 0, 2, 5, 0);
            x.ask(7);
            x.days(3);
            x.seed(-1);
            x.act(0, 2, 0);
            int[] due = {1, 2, 7, 3, 24, 30, -1, 4};
            for (int what = 0; what < due.length; what++) {
                Due.is("status " + what, x.status(what), due[what]);
            }
            int[] none = {-1, 8, 9, 10, 18, -11, 100, Integer.MAX_VALUE, Integer.MIN_VALUE};
            for (int what : none) {
                Due.is("status " + what, x.status(what), NONE);
            }
            Due.refused(x, 0, 0, 0, 0, 0, 0, 0);
        });
    }
}
