/** Promises 36 to 38: the image, what is restored from it, and what is told of all. */
public final class ImageTest {
    public static void main(String[] args) {
        image();
        restore();
        restoreFewer();
        restoreNobody();
        restoreTwice();
        status();
        Due.end();
    }

    private static void image() {
        HiredToWait x = new HiredToWait();
        Due.is("image of nobody", x.image(), 0);
        Due.is("restore nobody", x.restore(), 0);
        x.waiter(0, 0, 1, 1, 0);
        x.waiter(1, 0, 1, 1, 0);
        Due.is("image of two", x.image(), 2);
        Due.refused(x, 0, 0, 0, 0, 0, 0, 0);
    }

    private static void restore() {
        HiredToWait x = new HiredToWait();
        x.thing(1, 2, 3, 4, 5, 6, 6);
        x.waiter(2, 3, 4, 5, 6);
        x.ask(7);
        x.days(3);
        x.seed(99);
        int takings = x.status(4);
        int wages = x.status(5);
        x.image();
        x.thing(9, 9, 9, 9, 9, 9, 9);
        x.waiter(1, 1, 1, 1, 1);
        x.move(0, 9);
        x.ask(0);
        x.days(5);
        x.act(1, 1, 4);
        x.days(0);
        Due.row(x, 0, 3, 5);
        Due.text(x, 1, "hope x");
        x.guild(1);
        Due.is("restore", x.restore(), 1);
        int[] due = {1, 1, 7, 3, takings, wages, 99, 3};
        for (int what = 0; what < due.length; what++) {
            Due.is("restored: status(" + what + ")", x.status(what), due[what]);
        }
        int[] thing = {1, 2, 3, 4, 5, 6, 6, 6};
        for (int what = 0; what < thing.length; what++) {
            Due.is("restored thing", x.thingOf(0, what), thing[what]);
        }
        int[] waiter = {2, 3, 4, 5, 6};
        for (int what = 0; what < waiter.length; what++) {
            Due.is("restored waiter", x.waiterOf(0, what), waiter[what]);
        }
        Due.is("the trace stays", x.trace(0), 11);
        Due.is("the fault stays", x.fault(), 5);
        Due.is("rows stay", x.element(0, 0), 5);
        Due.is("rows stay with their sort", x.holds(0), 103);
        Due.refused(x, 0, 0, 0, 0, 0, 2, 0);
    }

    private static void restoreFewer() {
        HiredToWait x = new HiredToWait();
        x.waiter(0, 0, 1, 1, 3);
        x.image();
        x.waiter(1, 0, 1, 1, 4);
        x.move(0, 8);
        x.show(0, 0);
        x.show(1, 1);
        x.show(7, 1);
        x.row(2, 0, 3);
        Due.is("restore one", x.restore(), 1);
        Due.is("the shelf of 0 holds him", x.holds(0), 0);
        Due.is("he says where he was", x.says(0, 0), 3);
        Due.is("the shelf of 1 holds nothing", x.holds(1), -1);
        Due.is("the last shelf of 1 holds nothing", x.holds(7), -1);
        Due.is("nobody says", x.says(1, 0), -3);
        Due.is("a row is kept", x.holds(2), 100);
        x.waiter(1, 0, 1, 1, 4);
        Due.is("nothing is held again", x.holds(1), -1);
    }

    private static void restoreNobody() {
        HiredToWait x = new HiredToWait();
        x.image();
        x.waiter(0, 0, 1, 1, 3);
        x.show(0, 0);
        Due.is("restore nobody", x.restore(), 0);
        Due.is("the first shelf holds nothing", x.holds(0), -1);
    }

    private static void restoreTwice() {
        HiredToWait x = new HiredToWait();
        Due.is("no image", x.restore(), -6);
        x.waiter(0, 0, 1, 1, 3);
        x.image();
        x.move(0, 5);
        x.restore();
        x.move(0, 6);
        Due.is("restore again", x.restore(), 1);
        Due.is("the image is as it was", x.waiterOf(0, 4), 3);
        x.waiter(3, 1, 1, 1, 1);
        x.image();
        x.move(1, 9);
        Due.is("the latest image", x.restore(), 2);
        Due.is("the latest image has him", x.waiterOf(1, 4), 1);
        Due.refused(x, 0, 0, 0, 0, 0, 1, 0);
    }

    private static void status() {
        HiredToWait x = new HiredToWait();
        int[] none = {-1, 8, 9, 10, 18, 19, Integer.MIN_VALUE, Integer.MAX_VALUE, -11};
        for (int what : none) {
            Due.is("status(" + what + ")", x.status(what), -1);
        }
        x.best(0);
        x.judge(0, 0);
        x.row(0, 0, -1);
        x.posts(2);
        x.days(0);
        x.row(0, 0, 161);
        x.row(0, 0, 1);
        x.says(0, 0);
        Due.refused(x, 1, 1, 1, 1, 1, 1, 1);
    }
}
