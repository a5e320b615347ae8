/** Promises 1 to 8: a new object, and its shelves. */
public final class ShelvesTest {
    public static void main(String[] args) {
        newObject();
        row();
        set();
        copy();
        copyRefused();
        element();
        show();
        holds();
        says();
        saysRefused();
        Due.end();
    }

    private static void newObject() {
        HiredToWait x = new HiredToWait();
        int[] first = {0, 0, 1, 0, 0, 0, 1, 0};
        for (int what = 0; what < first.length; what++) {
            Due.is("new: status(" + what + ")", x.status(what), first[what]);
        }
        Due.refused(x, 0, 0, 0, 0, 0, 0, 0);
        for (int s = 0; s < 8; s++) {
            Due.is("new: holds", x.holds(s), HiredToWait.NONE);
        }
        Due.is("new: fault", x.fault(), -1);
        Due.is("new: trace", x.trace(0), -1);
        Due.is("new: restore", x.restore(), -6);
        Due.is("new: thingOf", x.thingOf(0, 0), -5);
        Due.is("new: waiterOf", x.waiterOf(0, 0), -5);
        Due.is("new: another object has its own", new HiredToWait().status(16), 0);
    }

    private static void row() {
        HiredToWait x = new HiredToWait();
        Due.is("row of bytes", x.row(0, 0, 0), 1);
        Due.is("row of longs, longest", x.row(7, 3, 160), 1);
        Due.is("no elements", x.set(0, 0, 1), -5);
        Due.is("last element", x.set(7, 159, 9), 1);
        Due.is("none behind it", x.set(7, 160, 9), -5);
        Due.is("first element", x.set(7, 0, 9), 1);
        Due.is("row anew", x.row(7, 2, 160), 1);
        Due.is("the first is 0 again", x.element(7, 0), 0);
        Due.is("elements are 0 again", x.element(7, 159), 0);
        Due.is("row shelf below", x.row(-1, -1, -1), -1);
        Due.is("row shelf above", x.row(8, 0, 1), -1);
        Due.is("row size below, ahead of the sort", x.row(0, 9, -1), -4);
        Due.is("row sort, ahead of room", x.row(0, 4, 161), -6);
        Due.is("row sort below", x.row(0, -1, 1), -6);
        Due.is("row too long", x.row(0, 0, 161), -7);
        Due.is("row far too long", x.row(0, 0, Integer.MAX_VALUE), -7);
        Due.is("refused rows change nothing", x.holds(0), 100);
        Due.refused(x, 2, 0, 0, 1, 2, 2, 2);
    }

    private static void set() {
        HiredToWait x = new HiredToWait();
        long big = 0x123456789ABCDEF0L;
        long[] kept = {(byte) big, (short) big, (int) big, big};
        for (int sort = 0; sort < 4; sort++) {
            Due.row(x, sort, sort, big, -1, 200);
            Due.is("lowest bits of sort " + sort, x.element(sort, 0), kept[sort]);
            Due.is("-1 in sort " + sort, x.element(sort, 1), -1);
            Due.is("200 in sort " + sort, x.element(sort, 2), sort == 0 ? -56 : 200);
        }
        x.waiter(0, 0, 1, 1, 0);
        x.show(4, 0);
        Due.is("set shelf", x.set(8, -1, 0), -1);
        Due.is("set in a waiter", x.set(4, -1, 0), -2);
        Due.is("set in nothing", x.set(5, -1, 0), -3);
        Due.is("set below", x.set(0, -1, 0), -5);
        Due.is("set beyond", x.set(0, 3, 0), -5);
        Due.is("set far beyond", x.set(0, Integer.MIN_VALUE, 0), -5);
        Due.refused(x, 1, 1, 1, 0, 3, 0, 0);
    }

    private static void copy() {
        HiredToWait x = new HiredToWait();
        Due.row(x, 0, 1, 1, 2, 3, 4, 5);
        Due.row(x, 1, 1, 10, 20, 30);
        Due.is("copy", x.copy(0, 1, 3, 0, 2), 1);
        expect(x, 1, 4, 5, 30);
        Due.is("copy upward in itself", x.copy(0, 0, 0, 1, 4), 1);
        expect(x, 0, 1, 1, 2, 3, 4);
        Due.is("copy downward in itself", x.copy(0, 0, 1, 0, 4), 1);
        expect(x, 0, 1, 2, 3, 4, 4);
        Due.is("copy none at the ends", x.copy(0, 1, 5, 3, 0), 1);
        Due.is("copy whole", x.copy(1, 0, 0, 2, 3), 1);
        expect(x, 0, 1, 2, 4, 5, 30);
    }

    private static void copyRefused() {
        HiredToWait x = new HiredToWait();
        Due.row(x, 0, 1, 1, 2, 3, 4, 5);
        Due.row(x, 1, 1, 10, 20, 30);
        Due.row(x, 2, 2, 7, 7);
        x.waiter(0, 0, 1, 1, 0);
        x.show(3, 0);
        Due.is("copy shelf p", x.copy(-1, 3, 0, 0, -1), -1);
        Due.is("copy shelf q", x.copy(3, 8, 0, 0, -1), -1);
        Due.is("copy nothing to no shelf", x.copy(4, 9, 0, 0, 0), -1);
        Due.is("copy waiter p, nothing q", x.copy(3, 4, 0, 0, 0), -2);
        Due.is("copy nothing p, waiter q", x.copy(4, 3, 0, 0, -1), -2);
        Due.is("copy row p, waiter q", x.copy(0, 3, 0, 0, 0), -2);
        Due.is("copy waiter p, row q", x.copy(3, 0, 0, 0, 0), -2);
        Due.is("copy two sorts", x.copy(0, 2, 0, 0, -1), -2);
        Due.is("copy nothing p", x.copy(4, 0, 0, 0, -1), -3);
        Due.is("copy nothing q", x.copy(0, 4, 0, 0, -1), -3);
        Due.is("copy nothing both", x.copy(4, 5, 0, 0, 0), -3);
        Due.is("copy n", x.copy(0, 1, -1, -1, -1), -4);
        Due.is("copy i below", x.copy(0, 1, -1, 0, 1), -5);
        Due.is("copy j below", x.copy(0, 1, 0, -1, 0), -5);
        Due.is("copy end of p", x.copy(0, 0, 4, 0, 2), -5);
        Due.is("copy end of q", x.copy(0, 1, 0, 2, 2), -5);
        Due.is("copy i far", x.copy(0, 1, 6, 0, 0), -5);
        Due.is("copy wraps", x.copy(0, 1, 1, 1, Integer.MAX_VALUE), -5);
        Due.is("copy wraps i", x.copy(0, 1, Integer.MAX_VALUE, 0, 1), -5);
        expect(x, 1, 10, 20, 30);
        Due.refused(x, 3, 5, 3, 1, 7, 0, 0);
    }

    private static void expect(HiredToWait x, int s, long... elements) {
        for (int i = 0; i < elements.length; i++) {
            Due.is("element(" + s + ", " + i + ")", x.element(s, i), elements[i]);
        }
    }

    private static void element() {
        HiredToWait x = new HiredToWait();
        Due.row(x, 0, 3, Long.MIN_VALUE, Long.MAX_VALUE);
        expect(x, 0, Long.MIN_VALUE, Long.MAX_VALUE, 0);
        Due.is("element below", x.element(0, -1), 0);
        Due.is("element of nothing", x.element(1, 0), 0);
        Due.is("element of no shelf", x.element(-1, 0), 0);
        Due.is("element of no shelf above", x.element(8, 0), 0);
        x.waiter(0, 0, 1, 1, 0);
        x.show(0, 0);
        Due.is("element of a waiter", x.element(0, 0), 0);
        Due.refused(x, 0, 0, 0, 0, 0, 0, 0);
    }

    private static void show() {
        HiredToWait x = new HiredToWait();
        x.waiter(0, 0, 1, 1, 0);
        Due.row(x, 0, 0, 1);
        Due.is("show a waiter", x.show(0, 0), 1);
        Due.is("held", x.holds(0), 0);
        Due.is("show nothing", x.show(0, -1), 0);
        Due.is("none held", x.holds(0), -1);
        Due.is("show shelf", x.show(8, 0), -1);
        Due.is("show shelf below", x.show(-1, -1), -1);
        Due.is("show no such", x.show(0, 1), -1);
        Due.is("show no such below", x.show(0, -2), -1);
        Due.refused(x, 4, 0, 0, 0, 0, 0, 0);
    }

    private static void holds() {
        HiredToWait x = new HiredToWait();
        x.waiter(0, 0, 1, 1, 0);
        x.waiter(1, 0, 1, 1, 0);
        for (int sort = 0; sort < 4; sort++) {
            x.row(sort, sort, 0);
            Due.is("holds a row", x.holds(sort), 100 + sort);
        }
        x.show(4, 1);
        Due.is("holds a waiter", x.holds(4), 1);
        Due.is("holds no shelf", x.holds(8), -1);
        Due.is("holds no shelf below", x.holds(-1), -1);
        Due.refused(x, 0, 0, 0, 0, 0, 0, 0);
    }

    private static void says() {
        int[] above = {-1, 0, 0, 1, 0, 2, 4};
        // at, patience, a, patience, pay, a, pay
        int[] said = {9, 7, 5, 7, 3, 5, 3};
        for (int kind = 0; kind < 7; kind++) {
            HiredToWait x = new HiredToWait();
            x.waiter(kind, 5, 3, 7, 9);
            x.show(2, 0);
            for (int takenFor = 0; takenFor < 7; takenFor++) {
                boolean under = kind == takenFor || above[kind] == takenFor || takenFor == 0;
                Due.is("kind " + kind + " says as " + takenFor, x.says(2, takenFor), under ? said[takenFor] : -2);
            }
        }
    }

    private static void saysRefused() {
        HiredToWait x = new HiredToWait();
        x.waiter(0, 5, 3, 7, 9);
        x.row(0, 0, 1);
        x.show(1, 0);
        Due.is("says shelf", x.says(8, 0), -1);
        Due.is("says shelf below", x.says(-1, 0), -1);
        Due.is("says kind", x.says(0, 7), -1);
        Due.is("says kind below", x.says(2, -1), -1);
        Due.is("a row says", x.says(0, 0), -2);
        Due.is("another kind says", x.says(1, 1), -2);
        Due.is("nothing says", x.says(2, 0), -3);
        x.move(0, 4);
        Due.is("says where he is now", x.says(1, 0), 4);
        Due.refused(x, 4, 2, 1, 0, 0, 0, 0);
    }
}
