import java.util.ArrayList;
import java.util.List;

/** The moves' bodies as Java's own classes, which tell in RAN what ran. */
final class Men {
    static final List<Integer> RAN = new ArrayList<>();

    private Men() {
    }

    static int moves(int kind, int m, int k, int move, int x) {
        Man man = man(kind, m, k);
        RAN.clear();
        return move == 0 ? man.waits(x) : move == 1 ? man.looks(x) : man.sends(x);
    }

    private static Man man(int kind, int m, int k) {
        switch (kind) {
            case 0: return new Man(m, k);
            case 1: return new Master(m, k);
            case 2: return new Lover(m, k);
            case 3: return new Endless(m, k);
            case 4: return new Apprentice(m, k);
            case 5: return new Reliever(m, k);
            default: return new Hoper(m, k);
        }
    }

    private static class Man {
        final int m;
        final int k;

        Man(int m, int k) {
            this.m = m;
            this.k = k;
        }

        int waits(int x) {
            RAN.add(10);
            return x + m;
        }

        int looks(int x) {
            RAN.add(11);
            return waits(x) * 2;
        }

        int sends(int x) {
            RAN.add(12);
            return looks(x) ^ waits(x - k);
        }
    }

    private static class Master extends Man {
        Master(int m, int k) {
            super(m, k);
        }

        @Override int waits(int x) {
            RAN.add(20);
            return super.waits(x) + k;
        }
    }

    private static class Lover extends Man {
        Lover(int m, int k) {
            super(m, k);
        }

        @Override int looks(int x) {
            RAN.add(30);
            return super.looks(x) * 3;
        }
    }

    private static final class Endless extends Master {
        Endless(int m, int k) {
            super(m, k);
        }

        @Override int waits(int x) {
            RAN.add(40);
            return super.waits(x + 1);
        }
    }

    private static class Apprentice extends Man {
        Apprentice(int m, int k) {
            super(m, k);
        }

        @Override int sends(int x) {
            RAN.add(50);
            return -super.sends(x);
        }

        @Override int waits(int x) {
            RAN.add(51);
            return super.waits(x) - m;
        }
    }

    private static final class Reliever extends Lover {
        Reliever(int m, int k) {
            super(m, k);
        }

        @Override int sends(int x) {
            RAN.add(60);
            return super.sends(x) ^ 5;
        }
    }

    private static final class Hoper extends Apprentice {
        Hoper(int m, int k) {
            super(m, k);
        }

        @Override int waits(int x) {
            RAN.add(70);
            return super.waits(x) * 2;
        }

        @Override int looks(int x) {
            RAN.add(71);
            return super.looks(x - k);
        }
    }
}
