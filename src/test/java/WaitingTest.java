/** Promises 18 to 28: what comes of waiting; the larger sums are checked in SumsTest. */
public final class WaitingTest {
    public static void main(String[] args) {
        by();
        stop();
        stopRefused();
        gains();
        best();
        lookouts();
        rota();
        rotaCantBe();
        posts();
        postsOfAll();
        seen();
        met();
        runners();
        left();
        leftRefused();
        await();
        Due.end();
    }

    private static void by() {
        HiredToWait x = new HiredToWait();
        x.thing(0, 3, 6, 5, 0, 0, 0);
        int[] due = {0, 0, 0, 1, 2, 3, 4, 4};
        for (int q = 0; q < due.length; q++) {
            Due.is("by(0, " + q + ")", x.by(0, q), due[q]);
        }
        Due.is("by at last", x.by(0, 23), 4);
        Due.is("by no thing", x.by(1, 24), -1);
        Due.is("by no thing below", x.by(-1, 0), -1);
        Due.is("by below", x.by(0, -1), -6);
        Due.is("by above", x.by(0, 24), -6);
        Due.refused(x, 2, 0, 0, 0, 0, 2, 0);
    }

    private static void stop() {
        HiredToWait x = new HiredToWait();
        // 4 cases, 1 of them never; gains by quarters: 10 - 8, 20 - 14, 30 - 18
        x.thing(0, 2, 4, 1, 10, 0, 0);
        x.waiter(0, 0, 2, 24, 0);
        Due.is("stop", x.stop(0, 0, 0), 4);
        Due.is("gain", x.stop(0, 0, 1), 12);
        x.waiter(0, 0, 2, 2, 0);
        Due.is("stop as long as he holds", x.stop(0, 1, 0), 3);
        Due.is("gain as long as he holds", x.stop(0, 1, 1), 6);
        // 2 cases, in one it never comes: by 5 it is 18 - 2 * 9, which isn't above 0
        x.thing(0, 5, 5, 1, 18, 0, 0);
        x.waiter(0, 0, 9, 24, 0);
        Due.is("no stop", x.stop(1, 2, 0), -1);
        Due.is("no gain", x.stop(1, 2, 1), 0);
        // 3 cases: 8 - 12, then 16 - 20, then 24 - 24
        x.thing(0, 0, 2, 0, 8, 0, 0);
        x.waiter(0, 0, 4, 24, 0);
        Due.is("nothing gained to the end", x.stop(2, 3, 0), -1);
        // 2 cases: 6 - 6, then 12 - 9
        x.thing(0, 0, 1, 0, 6, 0, 0);
        x.waiter(0, 0, 3, 24, 0);
        Due.is("stop at last", x.stop(3, 4, 0), 1);
        Due.is("gain at last", x.stop(3, 4, 1), 3);
    }

    private static void stopRefused() {
        HiredToWait x = new HiredToWait();
        Due.is("stop nothing", x.stop(0, 0, 2), -11);
        x.thing(0, 0, 0, 0, 9, 0, 0);
        Due.is("stop nobody", x.stop(0, 0, 0), -11);
        x.waiter(0, 0, 1, 1, 0);
        Due.is("stop below", x.stop(-1, 0, 0), -11);
        Due.is("stop nobody below", x.stop(0, -1, 0), -11);
        Due.is("stop another what", x.stop(0, 0, 2), -15);
        Due.is("stop what below", x.stop(0, 0, -1), -15);
        Due.is("stop, nothing refused", x.stop(0, 0, 0), 0);
        Due.refused(x, 4, 0, 0, 0, 2, 0, 0);
    }

    private static void gains() {
        HiredToWait x = new HiredToWait();
        x.waiter(0, 0, 1, 24, 0);
        // 4 cases, 2 of them never: 3 - 4, then 6 - 4 - 3
        x.thing(0, 0, 1, 2, 3, 0, 0);
        Due.is("never worth it", x.stop(0, 0, 1), 0);
        // 5 - 4, then 10 - 4 - 3
        x.thing(0, 0, 1, 2, 5, 0, 0);
        Due.is("worth it", x.stop(1, 0, 1), 3);
        // 6 cases, a quarter costs 1 for each still open: 0, 1, 3, 6, 10
        x.thing(0, 4, 8, 1, 6, 0, 0);
        Due.is("worth it to the end", x.stop(2, 0, 0), 8);
        // 5 cases: -1, -1, 0, 2, 5
        x.thing(0, 4, 8, 0, 4, 0, 0);
        Due.is("a late gain", x.stop(3, 0, 1), 5);
        // 5 cases, the first quarter free: 12, then 12 more less 4 times 3
        x.thing(0, 4, 5, 3, 12, 0, 0);
        x.waiter(4, 1, 3, 24, 0);
        Due.is("of two quarters alike the first", x.stop(4, 1, 0), 4);
        Due.is("their gain", x.stop(4, 1, 1), 12);
    }

    private static void best() {
        HiredToWait x = new HiredToWait();
        Due.is("best for nothing", x.best(0), -11);
        x.thing(0, 0, 0, 0, 5, 0, 0);
        Due.is("best of nobody", x.best(0), -1);
        x.waiter(0, 0, 5, 1, 0);
        Due.is("none above 0", x.best(0), -1);
        x.waiter(0, 0, 3, 1, 0);
        Due.is("the second", x.best(0), 1);
        x.waiter(0, 0, 3, 1, 0);
        Due.is("of two the first", x.best(0), 1);
        x.waiter(0, 0, 2, 1, 0);
        Due.is("a better one", x.best(0), 3);
        Due.is("best below", x.best(-1), -11);
        Due.is("best beyond", x.best(1), -11);
        Due.refused(x, 3, 0, 0, 0, 0, 0, 0);
    }

    private static void lookouts() {
        HiredToWait x = new HiredToWait();
        x.waiter(0, 0, 1, 1, 0);
        x.waiter(1, 0, 1, 1, 0);
        x.waiter(3, 0, 1, 1, 0);
        Due.is("lookouts without things", x.lookouts(2), 0);
        x.thing(0, 0, 0, 0, 0, 0, 0);
        x.thing(6, 0, 0, 0, 0, 0, 0);
        Due.is("a waiter's", x.lookouts(0), 0b0001000001);
        Due.is("a master's", x.lookouts(1), 0b0011100011);
        Due.is("an endless one's", x.lookouts(2), 0b0111110111);
        Due.is("lookouts of nobody", x.lookouts(3), -1);
        Due.is("lookouts of nobody below", x.lookouts(-1), -1);
        Due.refused(x, 2, 0, 0, 0, 0, 0, 0);
    }

    private static void rota() {
        HiredToWait x = new HiredToWait();
        x.thing(0, 10, 15, 3, 0, 0, 0);
        x.waiter(0, 0, 2, 4, 0);
        x.waiter(0, 0, 2, 5, 0);
        x.waiter(0, 0, 1, 2, 0);
        // 6 quarters: 2 of the third, of the others 4: the first row is 0 4 2
        Due.is("rota cost", x.rota(0, -1), 10);
        Due.is("rota 0", x.rota(0, 0), 0);
        Due.is("rota 1", x.rota(0, 1), 4);
        Due.is("rota 2", x.rota(0, 2), 2);
        // from 0 to 10 all are needed: 11 quarters are what they hold together
        x.thing(0, 0, 10, 0, 0, 0, 0);
        Due.is("rota of all", x.rota(1, -1), 20);
        Due.is("rota of all 0", x.rota(1, 0), 4);
        Due.is("rota of all 1", x.rota(1, 1), 5);
        Due.is("rota of all 2", x.rota(1, 2), 2);
        Due.is("the first again", x.rota(0, 1), 4);
    }

    private static void rotaCantBe() {
        HiredToWait x = new HiredToWait();
        Due.is("rota for nothing", x.rota(0, 7), -11);
        x.thing(0, 0, 3, 0, 0, 0, 0);
        Due.is("rota of nobody", x.rota(0, -1), -1);
        Due.is("rota of no such", x.rota(0, 0), -15);
        x.waiter(0, 0, 1, 3, 0);
        Due.is("rota too long", x.rota(0, -1), -1);
        Due.is("rota too long 0", x.rota(0, 0), -1);
        Due.is("rota below", x.rota(0, -2), -15);
        Due.is("rota thing below", x.rota(-1, 0), -11);
        x.waiter(0, 0, 1, 1, 0);
        Due.is("rota just long enough", x.rota(0, -1), 4);
        Due.is("rota i beyond", x.rota(0, 2), -15);
        Due.refused(x, 2, 0, 0, 0, 3, 0, 0);
    }

    private static void posts() {
        HiredToWait x = new HiredToWait();
        Due.is("posts for nothing", x.posts(0), 0);
        Due.is("posts for nothing, bits", x.posts(1), 0);
        x.thing(2, 0, 0, 0, 0, 0, 0);
        Due.is("nobody to post", x.posts(0), -1);
        Due.is("nobody to post, bits", x.posts(1), -1);
        x.waiter(0, 0, 1, 1, 2);
        x.waiter(0, 0, 1, 1, 4);
        Due.is("one post", x.posts(0), 1);
        Due.is("one post, bits", x.posts(1), 1);
        x.thing(4, 0, 0, 0, 0, 0, 0);
        Due.is("two posts", x.posts(0), 2);
        Due.is("two posts, bits", x.posts(1), 3);
        x.waiter(1, 0, 1, 1, 3);
        Due.is("one does for both", x.posts(0), 1);
        Due.is("one does for both, bits", x.posts(1), 4);
        x.waiter(1, 0, 1, 1, 3);
        Due.is("of two the least bits", x.posts(1), 4);
        Due.is("posts what", x.posts(2), -15);
        Due.is("posts what below", x.posts(-1), -15);
        Due.refused(x, 0, 0, 0, 0, 2, 0, 0);
    }

    private static void postsOfAll() {
        HiredToWait x = new HiredToWait();
        for (int w = 0; w < 6; w++) {
            x.waiter(0, 0, 1, 1, w);
            x.thing(w, 0, 0, 0, 0, 0, 0);
        }
        Due.is("all are posted", x.posts(0), 6);
        Due.is("all are posted, bits", x.posts(1), 63);
    }

    private static void seen() {
        HiredToWait x = new HiredToWait();
        x.waiter(1, 0, 1, 1, 5);
        Due.is("seen of nothing", x.seen(0, 0), 0);
        Due.is("stand for nothing", x.seen(0, 1), 0);
        HiredToWait y = new HiredToWait();
        y.waiter(0, 0, 1, 1, 5);
        y.thing(7, 0, 0, 0, 1, 0, 0);
        Due.is("stand for next to nothing", y.seen(0, 1), 7);
        x.thing(4, 0, 0, 0, 10, 0, 0);
        x.thing(6, 0, 0, 0, 10, 0, 0);
        x.thing(7, 0, 0, 0, 10, 0, 0);
        x.thing(2, 0, 0, 0, 9, 0, 0);
        Due.is("seen", x.seen(0, 0), 3);
        Due.is("of several stands the first", x.seen(0, 1), 5);
        x.thing(3, 0, 0, 0, 2, 0, 0);
        Due.is("the stand with the most", x.seen(0, 1), 3);
        Due.is("seen another what", x.seen(0, 2), -5);
        Due.is("seen what below", x.seen(0, -1), -5);
        Due.is("seen nobody", x.seen(1, 2), -1);
        Due.is("seen nobody below", x.seen(-1, 0), -1);
        Due.refused(x, 2, 0, 0, 0, 2, 0, 0);
    }

    private static void met() {
        HiredToWait x = new HiredToWait();
        int[][] staysAway = {{3, 3}, {3, 4}, {3, 7}, {3, 8}, {0, 0}, {0, 1}, {9, 19}, {9, 20}};
        int[] alone = {1, 0, 0, 0, 1, 0, 0, 0};
        int[] byRunner = {1, 1, 1, 0, 1, 1, 1, 0};
        for (int t = 0; t < 8; t++) {
            x.thing(0, 0, 0, 0, 0, staysAway[t][0], staysAway[t][1]);
            Due.is("met " + t, x.met(t, 0), alone[t]);
            Due.is("met with a runner " + t, x.met(t, 1), byRunner[t]);
        }
        Due.is("met another what", x.met(0, 2), -5);
        Due.is("met what below", x.met(0, -1), -5);
        Due.is("met none", x.met(8, 2), -1);
        Due.is("met below", x.met(-1, 0), -1);
        Due.refused(x, 2, 0, 0, 0, 2, 0, 0);
    }

    private static void runners() {
        HiredToWait x = new HiredToWait();
        Due.is("runners for nothing", x.runners(8, 0), 0);
        x.thing(0, 0, 0, 0, 10, 5, 5);
        x.thing(0, 0, 0, 0, 30, 5, 10);
        x.thing(0, 0, 0, 0, 90, 5, 20);
        x.thing(0, 0, 0, 0, 30, 5, 11);
        x.thing(0, 0, 0, 0, 40, 5, 6);
        x.thing(0, 0, 0, 0, 0, 5, 6);
        int[] worth = {10, 50, 80, 110, 110};
        int[] bits = {0, 16, 18, 26, 26};
        for (int k = 0; k < worth.length; k++) {
            Due.is("runners(" + k + ", 0)", x.runners(k, 0), worth[k]);
            Due.is("runners(" + k + ", 1)", x.runners(k, 1), bits[k]);
        }
        Due.is("runners 8", x.runners(8, 1), 26);
        Due.is("runners another what, ahead of k", x.runners(9, 2), -5);
        Due.is("runners what below", x.runners(0, -1), -5);
        Due.is("runners k", x.runners(9, 0), -6);
        Due.is("runners k below", x.runners(-1, 1), -6);
        Due.refused(x, 0, 0, 0, 0, 2, 2, 0);
    }

    private static void left() {
        HiredToWait x = new HiredToWait();
        x.row(0, 3, 41);
        Due.is("left without things", x.left(0, 1), 0);
        x.thing(0, 2, 5, 0, 0, 0, 0);
        x.thing(0, 4, 9, 9, 0, 0, 0);
        x.thing(0, 0, 23, 0, 0, 0, 0);
        Due.row(x, 1, 3, 5 + (7L << 32), 4, 9, 1, 24, -1);
        Due.is("left never", x.left(1, 0), 7);
        Due.is("left at 5", x.left(1, 1), 7);
        Due.is("left at 4 too", x.left(1, 2), 7);
        Due.is("left at 9 too", x.left(1, 3), 6);
        Due.is("left at 1 too", x.left(1, 4), 4);
        Due.is("left at no quarter", x.left(1, 5), -6);
        Due.is("left for 40 days", x.left(0, 40), 4);
    }

    private static void leftRefused() {
        HiredToWait x = new HiredToWait();
        x.waiter(0, 0, 1, 1, 0);
        x.row(0, 0, 41);
        x.row(1, 0, 2);
        x.set(1, 0, -1);
        x.show(2, 0);
        Due.is("left shelf", x.left(8, -1), -1);
        Due.is("left shelf below", x.left(-1, 0), -1);
        Due.is("left waiter", x.left(2, -1), -2);
        Due.is("left nothing", x.left(3, -1), -3);
        Due.is("left n below", x.left(1, -1), -4);
        Due.is("left fewer", x.left(1, 3), -5);
        Due.is("left fewer, ahead of 40", x.left(1, 41), -5);
        Due.is("left 41", x.left(0, 41), -6);
        Due.is("left no quarter", x.left(1, 1), -6);
        Due.refused(x, 2, 1, 1, 1, 2, 2, 0);
    }

    private static void await() {
        HiredToWait x = new HiredToWait();
        Due.is("await nothing", x.await(23), 0);
        Due.is("await when", x.await(-1), 0);
        x.thing(0, 3, 6, 0, 0, 0, 0);
        x.thing(0, 5, 9, 9, 0, 0, 0);
        x.thing(0, 20, 23, 9, 0, 0, 0);
        Due.is("await 2", x.await(2), 0);
        Due.is("await 3", x.await(3), 1);
        Due.is("await 6", x.await(6), 2);
        Due.is("await 7", x.await(7), 1);
        Due.is("await 23", x.await(23), 1);
        Due.is("await when most", x.await(-1), 5);
        Due.is("await 24", x.await(24), -6);
        Due.is("await -2", x.await(-2), -6);
        Due.refused(x, 0, 0, 0, 0, 0, 2, 0);
    }
}
