/** Promises 29 to 33: told days, days in truth, days by draws. */
public final class DaysTest {
    public static void main(String[] args) {
        judge();
        judgeRefused();
        behind();
        behindRefused();
        done();
        doneRefused();
        days();
        daysOfDraws();
        seed();
        Due.end();
    }

    /** Things 0 and 1 are met, 2 isn't; 1 and 2 may never come. */
    private static HiredToWait guild() {
        HiredToWait x = new HiredToWait();
        x.thing(0, 2, 5, 0, 10, 3, 3);
        x.thing(0, 4, 9, 1, 20, 3, 2);
        x.thing(0, 0, 23, 9, 40, 3, 4);
        return x;
    }

    private static void judged(int due, int n, long... day) {
        HiredToWait x = guild();
        Due.row(x, 0, 3, day);
        Due.is("judge(0, " + n + ")", x.judge(0, n), due);
        Due.refused(x, 0, 0, 0, 0, 0, 0, 0);
    }

    private static void judge() {
        judged(-1, 0, 777);
        judged(-1, 3, 223, 199, 5);
        judged(-1, 1, 2);
        judged(-1, 1, 2 + (1L << 32));
        judged(0, 1, 1);
        judged(0, 1, 6);
        judged(0, 1, 99);
        judged(0, 1, 300);
        judged(0, 1, -1);
        judged(0, 1, -99);
        judged(0, 1, Integer.MIN_VALUE);
        judged(0, 1, Integer.MAX_VALUE);
        judged(1, 2, 3, 103);
        judged(-1, 2, 3, 104);
        judged(1, 2, 3, 110);
        judged(-1, 2, 3, 109);
        judged(1, 2, 3, 3);
        judged(2, 4, 199, 299, 104, 1);
        judged(1, 2, 3, 224);
        judged(1, 2, 3, 298);
        judged(-1, 2, 3, 299, 24);
        judged(2, 3, 3, 299, 24);
        HiredToWait x = empty();
        Due.is("judge without things", x.judge(0, 1), 0);
        x.thing(0, 0, 0, 0, 5, 0, 0);
        Due.is("the first thing in the first quarter", x.judge(0, 1), -1);
        Due.is("judge no elements without things", empty().judge(0, 0), -1);
    }

    private static HiredToWait empty() {
        HiredToWait x = new HiredToWait();
        x.row(0, 0, 1);
        return x;
    }

    private static HiredToWait refusing() {
        HiredToWait x = guild();
        x.waiter(0, 0, 1, 1, 0);
        Due.row(x, 0, 2, 3, 104, 200, 0, 0, 0, 0, 0, 0);
        Due.row(x, 1, 2, 3);
        x.show(2, 0);
        return x;
    }

    private static void judgeRefused() {
        HiredToWait x = refusing();
        Due.is("judge shelf", x.judge(8, -1), -11);
        Due.is("judge shelf below", x.judge(-1, 0), -11);
        Due.is("judge waiter", x.judge(2, -1), -12);
        Due.is("judge nothing", x.judge(3, -1), -13);
        Due.is("judge n", x.judge(0, -1), -14);
        Due.is("judge fewer", x.judge(1, 2), -15);
        Due.is("judge fewer, ahead of 8", x.judge(1, 9), -15);
        Due.is("judge 9", x.judge(0, 9), -16);
        Due.is("judge 8", x.judge(0, 8), 3);
        Due.refused(x, 2, 1, 1, 1, 2, 1, 0);
    }

    private static void behind() {
        HiredToWait x = guild();
        Due.row(x, 0, 1, 203, 104, 2);
        Due.is("behind met", x.behind(0, 3, 0), 2);
        Due.is("behind worth", x.behind(0, 3, 1), 30);
        Due.is("behind never", x.behind(0, 3, 2), 0);
        Due.is("behind one met", x.behind(0, 1, 0), 0);
        Due.is("behind two worth", x.behind(0, 2, 1), 20);
        Due.row(x, 0, 1, 199, 299, 5);
        Due.is("behind: who never comes isn't met", x.behind(0, 3, 0), 1);
        Due.is("behind: nor worth", x.behind(0, 3, 1), 10);
        Due.is("behind never two", x.behind(0, 3, 2), 2);
        Due.is("behind nothing told", x.behind(0, 0, 2), 0);
        Due.is("behind changes no days", x.status(3), 0);
        Due.is("behind changes no takings", x.status(4), 0);
    }

    private static void behindRefused() {
        HiredToWait x = refusing();
        Due.is("behind shelf", x.behind(8, -1, 3), -1);
        Due.is("behind waiter", x.behind(2, -1, 3), -2);
        Due.is("behind nothing", x.behind(3, -1, 3), -3);
        Due.is("behind n", x.behind(0, -1, 3), -4);
        Due.is("behind fewer", x.behind(1, 2, 0), -5);
        Due.is("behind what", x.behind(0, 9, 3), -5);
        Due.is("behind what below", x.behind(0, 1, -1), -5);
        Due.is("behind 9", x.behind(0, 9, 0), -6);
        Due.is("behind wrong", x.behind(0, 4, 0), -6);
        Due.is("behind not yet wrong", x.behind(0, 3, 0), 2);
        Due.refused(x, 1, 1, 1, 1, 3, 2, 0);
    }

    private static void done() {
        HiredToWait x = guild();
        x.waiter(0, 0, 9, 24, 0);
        Due.row(x, 0, 1, 203, 104, 2);
        Due.is("done", x.done(0, 3), 30);
        Due.is("done again", x.done(0, 2), 50);
        Due.is("done, nothing told", x.done(0, 0), 50);
        Due.row(x, 0, 1, 199, 299);
        Due.is("done, none came", x.done(0, 2), 50);
        Due.row(x, 0, 1, 2, 199);
        Due.is("done, the first met", x.done(0, 2), 60);
        Due.is("days", x.status(3), 5);
        Due.is("takings", x.status(4), 60);
        Due.is("no wages by told days", x.status(5), 0);
        Due.is("no draws by told days", x.status(6), 1);
    }

    private static void doneRefused() {
        HiredToWait x = refusing();
        Due.is("done shelf", x.done(-1, -1), -1);
        Due.is("done waiter", x.done(2, -1), -2);
        Due.is("done nothing", x.done(3, -1), -3);
        Due.is("done n", x.done(0, -1), -4);
        Due.is("done fewer", x.done(1, 9), -5);
        Due.is("done 9", x.done(0, 9), -6);
        Due.is("done wrong", x.done(0, 4), -6);
        Due.is("no day", x.status(3), 0);
        Due.is("no takings", x.status(4), 0);
        Due.refused(x, 1, 1, 1, 1, 1, 2, 0);
    }

    private static void days() {
        HiredToWait x = new HiredToWait();
        Due.is("60 days of nothing", x.days(60), 0);
        Due.is("60 days", x.status(3), 60);
        Due.is("no draws", x.status(6), 1);
        Due.is("days 0", x.days(0), -6);
        Due.is("days 61", x.days(61), -6);
        Due.is("days below", x.days(-1), -6);
        Due.refused(x, 0, 0, 0, 0, 0, 3, 0);
        x.thing(0, 7, 7, 0, 11, 0, 0);
        Due.is("a sure thing", x.days(2), 22);
        x.ask(0);
        x.waiter(3, 4, 3, 5, 0);
        x.waiter(4, 1, 2, 9, 0);
        Due.is("takings, wages apart", x.days(3), 55);
        // 3 days of 3 * 5 + 4 and 2 * (5 - 1)
        Due.is("wages", x.status(5), 81);
        Due.is("days", x.status(3), 65);
    }

    private static void daysOfDraws() {
        HiredToWait x = guild();
        int[] cases = {4, 7, 33};
        int[] kinds = {4, 6, 24};
        int[] worth = {10, 20, 0};
        int seed = 1;
        int takings = 0;
        for (int day = 0; day < 200; day++) {
            for (int t = 0; t < 3; t++) {
                seed = seed * 1103515245 + 12345;
                if ((seed >>> 16) % cases[t] < kinds[t]) takings += worth[t];
            }
            Due.is("days(1) of day " + day, x.days(1), takings);
            Due.is("seed of day " + day, x.status(6), seed);
        }
        Due.holds("some never came", takings < 200 * 30);
        Due.is("days by draws", x.status(3), 200);
    }

    private static void seed() {
        HiredToWait x = new HiredToWait();
        Due.is("seed", x.seed(Integer.MIN_VALUE), 1);
        Due.is("seed again", x.seed(-5), Integer.MIN_VALUE);
        Due.is("seed kept", x.status(6), -5);
        x.thing(0, 0, 0, 1, 9, 0, 0);
        x.days(1);
        Due.is("seed drawn", x.seed(0), -5 * 1103515245 + 12345);
        Due.refused(x, 0, 0, 0, 0, 0, 0, 0);
    }
}
