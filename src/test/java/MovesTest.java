/** Promises 34 and 35: the moves, against the same bodies written as Java's own classes. */
public final class MovesTest {
    public static void main(String[] args) {
        byHand();
        asJavaHasIt();
        refused();
        Due.end();
    }

    private static void byHand() {
        HiredToWait x = new HiredToWait();
        x.waiter(0, 3, 1, 1, 0);
        x.waiter(3, 2, 1, 1, 0);
        Due.is("no trace yet", x.trace(0), -1);
        Due.is("a waiter waits", x.act(0, 0, 7), 7);
        Due.is("one body", x.status(7), 1);
        Due.is("its number", x.trace(0), 10);
        Due.is("none behind it", x.trace(1), -1);
        Due.is("none ahead of it", x.trace(-1), -1);
        // 40: waits above of 6; 20: of 10's 6 + 1, and 2
        Due.is("an endless one waits", x.act(1, 0, 5), 9);
        traced(x, 40, 20, 10);
        Due.is("an endless one looks", x.act(1, 1, 5), 18);
        traced(x, 11, 40, 20, 10);
        Due.is("an endless one sends", x.act(1, 2, 5), 18 ^ 7);
        traced(x, 12, 11, 40, 20, 10, 40, 20, 10);
    }

    private static void traced(HiredToWait x, int... bodies) {
        Due.is("bodies", x.status(7), bodies.length);
        for (int i = 0; i < bodies.length; i++) {
            Due.is("trace(" + i + ")", x.trace(i), bodies[i]);
        }
        Due.is("trace's end", x.trace(bodies.length), -1);
    }

    private static void asJavaHasIt() {
        int[] told = {0, 1, -1, 7, 1000, Integer.MAX_VALUE, Integer.MIN_VALUE, 0x2AAAAAAA};
        for (int shift = 0; shift < 7; shift++) {
            HiredToWait x = new HiredToWait();
            for (int m = 0; m < 6; m++) {
                x.waiter((m + shift) % 7, m + 3, 1, 1, 0);
            }
            for (int m = 0; m < 6; m++) {
                for (int move = 0; move < 3; move++) {
                    compare(x, (m + shift) % 7, m, move, told[(m + move + shift) % told.length]);
                }
            }
        }
    }

    private static void compare(HiredToWait x, int kind, int m, int move, int v) {
        int due = Men.moves(kind, m, m + 3, move, v);
        Due.is("act(" + m + ", " + move + ", " + v + ")", x.act(m, move, v), due);
        traced(x, Men.RAN.stream().mapToInt(Integer::intValue).toArray());
    }

    private static void refused() {
        HiredToWait x = new HiredToWait();
        Due.is("nobody acts", x.act(0, 0, 5), 0);
        x.waiter(0, 3, 1, 1, 0);
        int[][] wrong = {{1, 0}, {-1, 0}, {0, 3}, {0, -1}};
        for (int[] call : wrong) {
            Due.is("an act", x.act(0, 1, 5), 10);
            Due.is("no act", x.act(call[0], call[1], 5), 0);
            Due.is("no trace", x.trace(0), -1);
            Due.is("no bodies", x.status(7), 0);
        }
        Due.refused(x, 0, 0, 0, 0, 0, 0, 0);
    }
}
