import java.util.ArrayList;
import java.util.List;

/** Promises 34 and 35: the moves, against the same bodies written as Java's own classes. */
public final class MovesTest {
    private static final List<Integer> RAN = new ArrayList<>();

    public static void main(String[] args) {
        byHand();
        asJavaHasIt();
        refused();
        Due.end();
    }

    private static void byHand() {
        HiredToWait x = new HiredToWait();
        x.waiter(0, 3, 1, 1, 0);
        x.waiter(3, 2, 1, 1, 0);
        Due.is("no trace yet", x.trace(0), -1);
        Due.is("a waiter waits", x.act(0, 0, 7), 7);
        Due.is("one body", x.status(7), 1);
        Due.is("its number", x.trace(0), 10);
        Due.is("none behind it", x.trace(1), -1);
        Due.is("none ahead of it", x.trace(-1), -1);
        // 40: waits above of 6; 20: of 10's 6 + 1, and 2
        Due.is("an endless one waits", x.act(1, 0, 5), 9);
        traced(x, 40, 20, 10);
        Due.is("an endless one looks", x.act(1, 1, 5), 18);
        traced(x, 11, 40, 20, 10);
        Due.is("an endless one sends", x.act(1, 2, 5), 18 ^ 7);
        traced(x, 12, 11, 40, 20, 10, 40, 20, 10);
    }

    private static void traced(HiredToWait x, int... bodies) {
        Due.is("bodies", x.status(7), bodies.length);
        for (int i = 0; i < bodies.length; i++) {
            Due.is("trace(" + i + ")", x.trace(i), bodies[i]);
        }
        Due.is("trace's end", x.trace(bodies.length), -1);
    }

    private static void asJavaHasIt() {
        int[] told = {0, 1, -1, 7, 1000, Integer.MAX_VALUE, Integer.MIN_VALUE, 0x2AAAAAAA};
        for (int shift = 0; shift < 7; shift++) {
            HiredToWait x = new HiredToWait();
            for (int m = 0; m < 6; m++) {
                x.waiter((m + shift) % 7, m + 3, 1, 1, 0);
            }
            for (int m = 0; m < 6; m++) {
                for (int move = 0; move < 3; move++) {
                    compare(x, man((m + shift) % 7, m, m + 3), move, told[(m + move + shift) % told.length]);
                }
            }
        }
    }

    private static void compare(HiredToWait x, Man man, int move, int v) {
        RAN.clear();
        int due = move == 0 ? man.waits(v) : move == 1 ? man.looks(v) : man.sends(v);
        Due.is("act(" + man.m + ", " + move + ", " + v + ")", x.act(man.m, move, v), due);
        int[] bodies = new int[RAN.size()];
        for (int i = 0; i < bodies.length; i++) {
            bodies[i] = RAN.get(i);
        }
        traced(x, bodies);
    }

    private static void refused() {
        HiredToWait x = new HiredToWait();
        Due.is("nobody acts", x.act(0, 0, 5), 0);
        x.waiter(0, 3, 1, 1, 0);
        int[][] wrong = {{1, 0}, {-1, 0}, {0, 3}, {0, -1}};
        for (int[] call : wrong) {
            Due.is("an act", x.act(0, 1, 5), 10);
            Due.is("no act", x.act(call[0], call[1], 5), 0);
            Due.is("no trace", x.trace(0), -1);
            Due.is("no bodies", x.status(7), 0);
        }
        Due.refused(x, 0, 0, 0, 0, 0, 0, 0);
    }

    private static Man man(int kind, int m, int k) {
        switch (kind) {
            case 0: return new Man(m, k);
            case 1: return new Master(m, k);
            case 2: return new Lover(m, k);
            case 3: return new Endless(m, k);
            case 4: return new Apprentice(m, k);
            case 5: return new Reliever(m, k);
            default: return new Hoper(m, k);
        }
    }

    private static class Man {
        final int m;
        final int k;

        Man(int m, int k) {
            this.m = m;
            this.k = k;
        }

        int waits(int x) {
            RAN.add(10);
            return x + m;
        }

        int looks(int x) {
            RAN.add(11);
            return waits(x) * 2;
        }

        int sends(int x) {
            RAN.add(12);
            return looks(x) ^ waits(x - k);
        }
    }

    private static class Master extends Man {
        Master(int m, int k) {
            super(m, k);
        }

        @Override int waits(int x) {
            RAN.add(20);
            return super.waits(x) + k;
        }
    }

    private static class Lover extends Man {
        Lover(int m, int k) {
            super(m, k);
        }

        @Override int looks(int x) {
            RAN.add(30);
            return super.looks(x) * 3;
        }
    }

    private static final class Endless extends Master {
        Endless(int m, int k) {
            super(m, k);
        }

        @Override int waits(int x) {
            RAN.add(40);
            return super.waits(x + 1);
        }
    }

    private static class Apprentice extends Man {
        Apprentice(int m, int k) {
            super(m, k);
        }

        @Override int sends(int x) {
            RAN.add(50);
            return -super.sends(x);
        }

        @Override int waits(int x) {
            RAN.add(51);
            return super.waits(x) - m;
        }
    }

    private static final class Reliever extends Lover {
        Reliever(int m, int k) {
            super(m, k);
        }

        @Override int sends(int x) {
            RAN.add(60);
            return super.sends(x) ^ 5;
        }
    }

    private static final class Hoper extends Apprentice {
        Hoper(int m, int k) {
            super(m, k);
        }

        @Override int waits(int x) {
            RAN.add(70);
            return super.waits(x) * 2;
        }

        @Override int looks(int x) {
            RAN.add(71);
            return super.looks(x - k);
        }
    }
}
