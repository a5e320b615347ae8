/** The bounds that the document's parts WAITING and WHAT COMES OF IT, and promises 15 and 18 to 28, name. */
final class WaitingBounds {
    private static final int NONE = HiredToWait.NONE;

    private WaitingBounds() {
    }

    static void all() {
        cases();
        holds();
        costs();
        sees();
        stops();
        rotas();
        posts();
        stands();
        met();
        runners();
        left();
        await();
    }

    private static HiredToWait withThing(int corner, int first, int last, int never, int worth) {
        HiredToWait x = new HiredToWait();
        Due.is("thing", x.thing(corner, first, last, never, worth, 0, 0), 0);
        return x;
    }

    private static int casesOf(int first, int last, int never) {
        return withThing(0, first, last, never, 0).thingOf(0, 7);
    }

    private static void cases() {
        Sentence.says("A THING comes, of LAST less FIRST, and 1, and NEVER cases, all alike, in one each in each quarter "
            + "from FIRST to LAST, in NEVER of them not at all. CASES of it: how many in all;", () -> {
            Due.is("the fewest", casesOf(0, 0, 0), 1);
            Due.is("the fewest, last of all", casesOf(23, 23, 0), 1);
            Due.is("of one quarter", casesOf(5, 5, 9), 10);
            Due.is("the most", casesOf(0, 23, 9), 33);
            Due.is("of all quarters", casesOf(0, 23, 0), 24);
        });
        Sentence.says("BY a quarter: in how many it has come then or ahead.", () -> {
            HiredToWait x = withThing(0, 3, 5, 9, 0);
            int[] due = {0, 0, 0, 1, 2, 3, 3, 3};
            for (int q = 0; q < due.length; q++) {
                Due.is("by " + q, x.by(0, q), due[q]);
            }
            Due.is("by the last of all", x.by(0, 23), 3);
            Due.is("of the first quarter", withThing(0, 0, 0, 0, 0).by(0, 0), 1);
            Due.is("of the last quarter", withThing(0, 23, 23, 0, 0).by(0, 23), 1);
            Due.is("ahead of the last quarter", withThing(0, 23, 23, 0, 0).by(0, 22), 0);
        });
        Sentence.says("BY a quarter (0 to 23). -1; -6.", () -> {
            HiredToWait x = withThing(0, 0, 23, 0, 0);
            Due.is("quarter 0", x.by(0, 0), 1);
            Due.is("quarter 23", x.by(0, 23), 24);
            Due.is("quarter -1", x.by(0, -1), -6);
            Due.is("quarter 24", x.by(0, 24), -6);
            Due.is("thing 1", x.by(1, 0), -1);
            Due.is("thing -1", x.by(-1, 0), -1);
            Due.is("neither", x.by(1, 24), -1);
            Due.refused(x, 3, 0, 0, 0, 0, 2, 0);
        });
    }

    private static int held(int kind, int a, int patience, int hope) {
        HiredToWait x = new HiredToWait();
        x.ask(hope);
        x.waiter(kind, a, 1, patience, 0);
        return x.waiterOf(0, 5);
    }

    private static void holds() {
        Sentence.says("HOLDS (quarters on end): WAITER PATIENCE;", () -> {
            Due.is("least", held(0, 9, 1, 9), 1);
            Due.is("most", held(0, 9, 24, 9), 24);
        });
        Sentence.says("MASTER twice that;", () -> {
            Due.is("least", held(1, 9, 1, 9), 2);
            Due.is("half of the most", held(1, 9, 12, 9), 24);
            Due.is("just below", held(1, 9, 11, 9), 22);
        });
        Sentence.says("ENDLESS 24;", () -> {
            Due.is("of least patience", held(3, 0, 1, 0), 24);
            Due.is("of most patience", held(3, 9, 24, 9), 24);
        });
        Sentence.says("LOVER PATIENCE and a;", () -> {
            Due.is("least", held(2, 0, 1, 9), 1);
            Due.is("with a", held(2, 9, 15, 9), 24);
            Due.is("just below", held(2, 8, 15, 9), 23);
        });
        Sentence.says("RELIEVER that of LOVER, 1 less (1 at least);", () -> {
            Due.is("1 at least", held(5, 0, 1, 0), 1);
            Due.is("1", held(5, 0, 2, 0), 1);
            Due.is("1 by a", held(5, 1, 1, 0), 1);
            Due.is("2", held(5, 1, 2, 0), 2);
            Due.is("just below the most", held(5, 9, 15, 0), 23);
        });
        Sentence.says("APPRENTICE half of PATIENCE (upward);", () -> {
            Due.is("of 1", held(4, 9, 1, 9), 1);
            Due.is("of 2", held(4, 9, 2, 9), 1);
            Due.is("of 3", held(4, 9, 3, 9), 2);
            Due.is("of 23", held(4, 9, 23, 9), 12);
            Due.is("of 24", held(4, 9, 24, 9), 12);
        });
        Sentence.says("HOPER that of APPRENTICE, and HOPE.", () -> {
            Due.is("without hope", held(6, 9, 1, 0), 1);
            Due.is("upward", held(6, 9, 3, 0), 2);
            Due.is("with the most hope", held(6, 9, 1, 9), 10);
            Due.is("the most", held(6, 9, 24, 9), 21);
        });
        Sentence.says("At last 24 at most.", () -> {
            Due.is("a master", held(1, 0, 13, 0), 24);
            Due.is("the master", held(1, 0, 24, 0), 24);
            Due.is("a lover", held(2, 9, 16, 0), 24);
            Due.is("the lover", held(2, 9, 24, 0), 24);
            Due.is("a reliever", held(5, 9, 16, 0), 24);
            Due.is("the reliever", held(5, 9, 24, 0), 24);
        });
    }

    /** Of a kind with this a, pay 3 and patience 6, with hope 2: costs of so many quarters. */
    private static void costs(int kind, int a, int[] quarters, int... due) {
        HiredToWait x = new HiredToWait();
        x.ask(2);
        x.waiter(kind, a, 3, 6, 0);
        for (int i = 0; i < due.length; i++) {
            Due.is("kind " + kind + ", a " + a + ": cost of " + quarters[i], x.cost(0, quarters[i]), due[i]);
        }
    }

    private static void costs() {
        int[] n = {0, 1, 2, 5, 6, 7, 24};
        Sentence.says("COST of n quarters (0 to 24): WAITER PAY times n;", () -> {
            costs(0, 4, n, 0, 3, 6, 15, 18, 21, 72);
            HiredToWait x = new HiredToWait();
            x.waiter(0, 9, 9, 24, 0);
            Due.is("the most", x.cost(0, 24), 216);
            Due.is("of 25", x.cost(0, 25), -6);
            Due.is("of -1", x.cost(0, -1), -6);
        });
        Sentence.says("MASTER that, and a (of 0 quarters 0);", () -> {
            costs(1, 4, n, 0, 7, 10, 19, 22, 25, 76);
            costs(1, 0, n, 0, 3, 6, 15, 18, 21, 72);
        });
        Sentence.says("ENDLESS as MASTER of n, yet of PATIENCE quarters at most;",
            () -> costs(3, 4, n, 0, 7, 10, 19, 22, 22, 22));
        Sentence.says("LOVER half of that of WAITER (upward);", () -> costs(2, 4, n, 0, 2, 3, 8, 9, 11, 36));
        Sentence.says("RELIEVER that of LOVER, and 1 (of 0 quarters 0);", () -> costs(5, 4, n, 0, 3, 4, 9, 10, 12, 37));
        Sentence.says("APPRENTICE PAY times those beyond the first a;", () -> {
            costs(4, 5, n, 0, 0, 0, 0, 3, 6, 57);
            costs(4, 0, n, 0, 3, 6, 15, 18, 21, 72);
        });
        Sentence.says("HOPER that of APPRENTICE, and HOPE times n.", () -> {
            costs(6, 5, n, 0, 2, 4, 10, 15, 20, 105);
            HiredToWait x = new HiredToWait();
            x.ask(0);
            x.waiter(6, 5, 3, 1, 0);
            Due.is("without hope", x.cost(0, 5), 0);
            x.ask(9);
            Due.is("with the most", x.cost(0, 24), 57 + 216);
        });
        Sentence.says("COST of n quarters. -1; -6.", () -> {
            HiredToWait x = new HiredToWait();
            x.waiter(0, 0, 2, 1, 0);
            Due.is("nobody", x.cost(1, 0), -1);
            Due.is("nobody below", x.cost(-1, 0), -1);
            Due.is("neither", x.cost(1, 25), -1);
            Due.is("25", x.cost(0, 25), -6);
            Due.is("-1", x.cost(0, -1), -6);
            Due.is("0", x.cost(0, 0), 0);
            Due.is("24", x.cost(0, 24), 48);
            Due.refused(x, 3, 0, 0, 0, 0, 2, 0);
        });
    }

    private static void sees() {
        Sentence.says("SEES (things at CORNERS so far off at most): WAITER, LOVER, APPRENTICE, RELIEVER 0; "
            + "MASTER, HOPER 1; ENDLESS 2.", () -> {
            int[] sight = {0, 1, 0, 2, 0, 0, 1};
            for (int kind = 0; kind < 7; kind++) {
                HiredToWait x = withThing(5, 0, 0, 0, 0);
                x.waiter(kind, 0, 1, 1, 0);
                Due.is("kind " + kind, x.waiterOf(0, 6), sight[kind]);
                for (int corner = 0; corner < 10; corner++) {
                    x.move(0, corner);
                    boolean sees = Math.abs(corner - 5) <= sight[kind];
                    Due.is("kind " + kind + " from " + corner, x.seen(0, 0), sees ? 1 : 0);
                }
            }
        });
    }

    private static void stops() {
        Sentence.says("STOP for a THING by a WAITER: he waits from FIRST on till it comes or the end of a quarter q", () -> {
            HiredToWait x = withThing(0, 23, 23, 0, 10);
            x.waiter(0, 0, 3, 1, 0);
            Due.is("the last quarter of all", x.stop(0, 0, 0), 23);
            Due.is("is paid alone", x.stop(0, 0, 1), 7);
            HiredToWait y = withThing(0, 0, 0, 1, 10);
            y.waiter(0, 0, 3, 1, 0);
            Due.is("the first quarter of all", y.stop(0, 0, 0), 0);
            Due.is("is paid if it never comes too", y.stop(0, 0, 1), 4);
        });
        Sentence.says("(FIRST to LAST, so many quarters as he HOLDS at most)", () -> {
            HiredToWait x = withThing(0, 4, 9, 0, 99);
            int[] holds = {1, 5, 6, 7, 24};
            int[] due = {4, 8, 9, 9, 9};
            for (int w = 0; w < holds.length; w++) {
                x.waiter(0, 0, 1, holds[w], 0);
                Due.is("who holds " + holds[w], x.stop(0, w, 0), due[w]);
            }
        });
        Sentence.says(", and is paid for the quarters he waited;", () -> {
            HiredToWait x = withThing(0, 0, 1, 2, 50);
            x.waiter(0, 0, 4, 24, 0);
            // 100 - 4 - 8 - 2 * 8
            Due.is("gain", x.stop(0, 0, 1), 72);
        });
        Sentence.says("A THING that comes in a quarter r is waited for r less FIRST and 1 quarters, which are paid.", () -> {
            HiredToWait x = withThing(0, 7, 7, 0, 99);
            x.waiter(1, 4, 3, 24, 0);
            Due.is("one quarter", x.stop(0, 0, 1), 92);
            HiredToWait y = withThing(0, 0, 23, 0, 99);
            y.waiter(0, 0, 1, 24, 0);
            // less 1 to 24
            Due.is("24 quarters", y.stop(0, 0, 1), 2376 - 300);
        });
        Sentence.says("GAIN by q: of all CASES the sum of WORTH of those in which it came by then, less COST of all:", () -> {
            // by 3: 40 - 2 - 2 * 2, by 4: 80 - 2 - 4 - 4
            HiredToWait x = withThing(0, 3, 4, 1, 40);
            x.waiter(0, 0, 2, 1, 0);
            x.waiter(0, 0, 2, 2, 0);
            Due.is("by 3", x.stop(0, 0, 1), 34);
            Due.is("by 4", x.stop(0, 1, 1), 70);
            HiredToWait y = withThing(0, 0, 0, 9, 99);
            y.waiter(0, 0, 9, 1, 0);
            Due.is("1 case of 10", y.stop(0, 0, 1), 9);
            HiredToWait z = withThing(0, 0, 23, 9, 99);
            z.waiter(4, 9, 1, 24, 0);
            z.waiter(3, 0, 1, 1, 0);
            // 12 cases of 33, free for the first 9, then 1, 2, 3; 3 for the 21 others
            Due.is("by 11", z.stop(0, 0, 1), 12 * 99 - 6 - 21 * 3);
            Due.is("by 23, one quarter paid", z.stop(0, 1, 1), 24 * 99 - 33);
        });
        Sentence.says("the q by which GAIN is greatest, of several the first;", () -> {
            // the first quarter free: 12, then 12 more less 4 times 3
            HiredToWait x = withThing(0, 4, 5, 3, 12);
            x.waiter(4, 1, 3, 24, 0);
            Due.is("of two alike", x.stop(0, 0, 0), 4);
            Due.is("their gain", x.stop(0, 0, 1), 12);
            HiredToWait y = withThing(0, 4, 5, 3, 13);
            y.waiter(4, 1, 3, 24, 0);
            Due.is("of two, the second greater", y.stop(0, 0, 0), 5);
            Due.is("its gain", y.stop(0, 0, 1), 14);
        });
        Sentence.says("NONE: by none is it above 0. GAIN: that (0 for NONE).", () -> {
            HiredToWait x = withThing(0, 0, 0, 0, 5);
            x.waiter(0, 0, 4, 1, 0);
            x.waiter(0, 0, 5, 1, 0);
            x.waiter(0, 0, 6, 1, 0);
            Due.is("1", x.stop(0, 0, 0), 0);
            Due.is("1", x.stop(0, 0, 1), 1);
            Due.is("0", x.stop(0, 1, 0), NONE);
            Due.is("0", x.stop(0, 1, 1), 0);
            Due.is("below", x.stop(0, 2, 0), NONE);
            Due.is("below", x.stop(0, 2, 1), 0);
        });
        Sentence.says("STOP (what 0; NONE), GAIN (1). -11; -15 another what (counted as -1, -5).", () -> {
            HiredToWait x = withThing(0, 0, 0, 0, 5);
            Due.is("nobody", x.stop(0, 0, 0), -11);
            x.waiter(0, 0, 4, 1, 0);
            Due.is("waiter 1", x.stop(0, 1, 0), -11);
            Due.is("waiter -1", x.stop(0, -1, 0), -11);
            Due.is("thing 1", x.stop(1, 0, 1), -11);
            Due.is("thing -1", x.stop(-1, 0, 1), -11);
            Due.is("neither", x.stop(1, 1, 2), -11);
            Due.is("what 2", x.stop(0, 0, 2), -15);
            Due.is("what -1", x.stop(0, 0, -1), -15);
            Due.refused(x, 6, 0, 0, 0, 2, 0, 0);
        });
        Sentence.says("The WAITER by whom GAIN for a THING is greatest, of several the first; NONE: by none is it above 0. "
            + "-11 (counted as -1).", () -> {
            HiredToWait x = withThing(0, 0, 0, 0, 5);
            Due.is("of nobody", x.best(0), NONE);
            x.waiter(0, 0, 5, 1, 0);
            Due.is("gain 0", x.best(0), NONE);
            HiredToWait y = withThing(0, 0, 0, 0, 5);
            y.waiter(0, 0, 4, 1, 0);
            y.waiter(0, 0, 4, 1, 0);
            Due.is("the first of all", y.best(0), 0);
            x.waiter(0, 0, 4, 1, 0);
            Due.is("gain 1", x.best(0), 1);
            x.waiter(0, 0, 4, 1, 0);
            Due.is("of several", x.best(0), 1);
            x.waiter(0, 0, 3, 1, 0);
            Due.is("greatest", x.best(0), 3);
            Due.is("thing 1", x.best(1), -11);
            Due.is("thing -1", x.best(-1), -11);
            Due.refused(x, 2, 0, 0, 0, 0, 0, 0);
        });
    }

    /** What each waiter has in the rota for thing 0, and at last what it costs. */
    private static void rotaIs(HiredToWait x, int... due) {
        int waiters = due.length - 1;
        for (int i = 0; i < waiters; i++) {
            Due.is("share of " + i, x.rota(0, i), due[i]);
        }
        Due.is("cost", x.rota(0, NONE), due[waiters]);
    }

    private static void rotas() {
        Sentence.says("ROTA for a THING: all quarters from FIRST to LAST waited by WAITERS one behind the other", () -> {
            HiredToWait x = withThing(0, 23, 23, 9, 0);
            x.waiter(0, 0, 3, 24, 0);
            rotaIs(x, 1, 3);
            HiredToWait y = withThing(0, 0, 23, 9, 0);
            for (int w = 0; w < 6; w++) {
                y.waiter(0, 0, 1, 4, 0);
            }
            rotaIs(y, 4, 4, 4, 4, 4, 4, 24);
        });
        Sentence.says("(each once at most, of each so many on end as he HOLDS at most)", () -> {
            HiredToWait x = withThing(0, 0, 4, 0, 0);
            x.waiter(0, 0, 1, 3, 0);
            x.waiter(0, 0, 9, 24, 0);
            rotaIs(x, 3, 2, 21);
            HiredToWait y = withThing(0, 0, 4, 0, 0);
            y.waiter(0, 0, 1, 5, 0);
            y.waiter(0, 0, 9, 24, 0);
            rotaIs(y, 5, 0, 5);
        });
        Sentence.says("the least COST of all together;", () -> {
            HiredToWait x = withThing(0, 0, 1, 0, 0);
            // both together cost 5 + 4, or 5 + 2; the master alone 2 * 3 + 2
            x.waiter(1, 2, 3, 1, 0);
            x.waiter(0, 0, 4, 1, 0);
            rotaIs(x, 2, 0, 8);
            HiredToWait y = withThing(0, 0, 1, 0, 0);
            y.waiter(1, 2, 3, 1, 0);
            y.waiter(0, 0, 2, 1, 0);
            rotaIs(y, 1, 1, 7);
        });
        Sentence.says("how many quarters the i-th has, of several rotas the first by rows (numbers of quarters, by WAITERS);", () -> {
            HiredToWait x = withThing(0, 0, 2, 0, 0);
            for (int w = 0; w < 3; w++) {
                x.waiter(0, 0, 2, 2, 0);
            }
            rotaIs(x, 0, 1, 2, 6);
        });
        Sentence.says("NONE: it can't be.", () -> {
            HiredToWait x = withThing(0, 0, 4, 0, 0);
            rotaIs(x, NONE);
            x.waiter(0, 0, 1, 2, 0);
            x.waiter(0, 0, 1, 2, 0);
            rotaIs(x, NONE, NONE, NONE);
            x.waiter(0, 0, 1, 1, 0);
            rotaIs(x, 2, 2, 1, 5);
        });
        Sentence.says("WAITERS with 0 quarters in a ROTA have 0.", () -> {
            HiredToWait x = withThing(0, 0, 0, 0, 0);
            x.waiter(0, 0, 2, 1, 0);
            x.waiter(0, 0, 1, 1, 0);
            x.waiter(0, 0, 3, 1, 0);
            rotaIs(x, 0, 1, 0, 1);
        });
        Sentence.says("ROTA: COST (i NONE), how many quarters the i-th WAITER has; NONE. "
            + "-11; -15 no such i (counted as -1, -5).", () -> {
            HiredToWait x = withThing(0, 0, 1, 0, 0);
            Due.is("no i", x.rota(0, 0), -15);
            x.waiter(0, 0, 2, 2, 0);
            Due.is("cost", x.rota(0, -1), 4);
            Due.is("i 0", x.rota(0, 0), 2);
            Due.is("i 1", x.rota(0, 1), -15);
            Due.is("i -2", x.rota(0, -2), -15);
            Due.is("thing 1", x.rota(1, 0), -11);
            Due.is("thing -1", x.rota(-1, -1), -11);
            Due.is("neither", x.rota(1, 1), -11);
            Due.refused(x, 3, 0, 0, 0, 3, 0, 0);
        });
    }

    private static HiredToWait watched(int[] things, int[] waiters) {
        HiredToWait x = new HiredToWait();
        for (int corner : things) {
            x.thing(corner, 0, 0, 0, 0, 0, 0);
        }
        for (int corner : waiters) {
            x.waiter(0, 0, 1, 1, corner);
        }
        return x;
    }

    private static void postsAre(HiredToWait x, int count, int bits) {
        Due.is("how many", x.posts(0), count);
        Due.is("bits", x.posts(1), bits);
    }

    private static void posts() {
        Sentence.says("POSTS: the fewest WAITERS by whom all THINGS are seen from where they are AT: how many;", () -> {
            int[] corners = {0, 1, 2, 3, 4, 5};
            postsAre(watched(corners, corners), 6, 63);
            HiredToWait x = watched(new int[] {0, 2}, new int[] {0, 2});
            postsAre(x, 2, 3);
            x.waiter(1, 0, 1, 1, 1);
            postsAre(x, 1, 4);
            x.move(2, 3);
            postsAre(x, 2, 3);
        });
        Sentence.says("bits, of several the least as bits; NONE.", () -> {
            postsAre(watched(new int[] {4}, new int[] {1, 4, 4, 4}), 1, 2);
            postsAre(watched(new int[] {4, 6}, new int[] {6, 4, 6, 4}), 2, 3);
            postsAre(watched(new int[] {4}, new int[] {}), NONE, NONE);
            postsAre(watched(new int[] {4, 6}, new int[] {4, 5}), NONE, NONE);
        });
        Sentence.says("Without THINGS POSTS are 0", () -> {
            postsAre(new HiredToWait(), 0, 0);
            postsAre(watched(new int[] {}, new int[] {1, 2}), 0, 0);
        });
        Sentence.says("POSTS: how many (what 0), bits (1); NONE. -15 another what (counted as -5).", () -> {
            HiredToWait x = new HiredToWait();
            Due.is("what 2", x.posts(2), -15);
            Due.is("what -1", x.posts(-1), -15);
            Due.refused(x, 0, 0, 0, 0, 2, 0, 0);
        });
    }

    private static void stands() {
        Sentence.says("SEEN by one: THINGS (bits).", () -> {
            HiredToWait x = watched(new int[] {0, 1, 2, 3, 4, 9, 1, 2}, new int[] {2});
            Due.is("his own corner", x.seen(0, 0), 0b10000100);
            HiredToWait y = watched(new int[] {}, new int[] {2});
            Due.is("of nothing", y.seen(0, 0), 0);
            HiredToWait z = watched(new int[] {3, 3, 3, 3, 3, 3, 3, 3}, new int[] {3});
            Due.is("of all", z.seen(0, 0), 255);
        });
        Sentence.says("STAND for one: the CORNER from which he SEES the most WORTH, of several the first.", () -> {
            HiredToWait x = new HiredToWait();
            x.waiter(0, 0, 1, 1, 5);
            Due.is("of nothing", x.seen(0, 1), 0);
            x.thing(7, 0, 0, 0, 0, 0, 0);
            Due.is("of no worth", x.seen(0, 1), 0);
            x.thing(9, 0, 0, 0, 1, 0, 0);
            Due.is("the last corner", x.seen(0, 1), 9);
            HiredToWait y = withThing(0, 0, 0, 0, 1);
            y.thing(1, 0, 0, 0, 1, 0, 0);
            y.waiter(0, 0, 1, 1, 5);
            Due.is("the first corner", y.seen(0, 1), 0);
            HiredToWait z = withThing(1, 0, 0, 0, 1);
            z.waiter(0, 0, 1, 1, 5);
            Due.is("the corner of the first thing", z.seen(0, 1), 1);
            x.thing(4, 0, 0, 0, 1, 0, 0);
            Due.is("of several", x.seen(0, 1), 4);
            x.thing(7, 0, 0, 0, 2, 0, 0);
            Due.is("the most", x.seen(0, 1), 7);
            x.waiter(3, 0, 1, 1, 5);
            // from 5 and 6 he sees those at 4 and 7, from 7 and 8 those at 7 and 9: worth 3 each
            Due.is("the first of an endless one's", x.seen(1, 1), 5);
        });
        Sentence.says("SEEN by one (what 0), STAND (1). -1; -5 another what.", () -> {
            HiredToWait x = watched(new int[] {}, new int[] {2});
            Due.is("what 2", x.seen(0, 2), -5);
            Due.is("what -1", x.seen(0, -1), -5);
            Due.is("waiter 1", x.seen(1, 0), -1);
            Due.is("waiter -1", x.seen(-1, 1), -1);
            Due.is("neither", x.seen(1, 2), -1);
            Due.refused(x, 3, 0, 0, 0, 2, 0, 0);
        });
        Sentence.says("CORNERS (bits 0 to 9) from which one SEES one THING at least. -1.", () -> {
            HiredToWait x = watched(new int[] {}, new int[] {2});
            Due.is("of none", x.lookouts(0), 0);
            x.thing(0, 0, 0, 0, 0, 0, 0);
            Due.is("of corner 0", x.lookouts(0), 1);
            x.thing(9, 0, 0, 0, 0, 0, 0);
            Due.is("of corner 9", x.lookouts(0), 513);
            x.waiter(3, 0, 1, 1, 5);
            Due.is("an endless one", x.lookouts(1), 0b1110000111);
            x.thing(4, 0, 0, 0, 0, 0, 0);
            x.thing(5, 0, 0, 0, 0, 0, 0);
            Due.is("from all", x.lookouts(1), 1023);
            Due.is("nobody", x.lookouts(2), -1);
            Due.is("nobody below", x.lookouts(-1), -1);
            Due.refused(x, 2, 0, 0, 0, 0, 0, 0);
        });
    }

    private static void metIs(int stays, int away, int alone, int withRunner) {
        HiredToWait x = new HiredToWait();
        x.thing(0, 0, 0, 0, 0, stays, away);
        Due.is("stays " + stays + ", away " + away, x.met(0, 0), alone);
        Due.is("stays " + stays + ", away " + away + ", with a runner", x.met(0, 1), withRunner);
    }

    private static void met() {
        Sentence.says("MET: a THING whose owner is AWAY no more than it STAYS.", () -> {
            metIs(0, 0, 1, 1);
            metIs(4, 3, 1, 1);
            metIs(4, 4, 1, 1);
            metIs(4, 5, 0, 1);
            metIs(9, 0, 1, 1);
        });
        Sentence.says("A RUNNER halves AWAY (cut).", () -> {
            metIs(0, 1, 0, 1);
            metIs(0, 2, 0, 0);
            metIs(4, 9, 0, 1);
            metIs(4, 10, 0, 0);
            metIs(9, 19, 0, 1);
            metIs(9, 20, 0, 0);
        });
        Sentence.says("MET (what 0: 1, 0), MET with a RUNNER (1). -1; -5 another what.", () -> {
            HiredToWait x = withThing(0, 0, 0, 0, 0);
            Due.is("what 2", x.met(0, 2), -5);
            Due.is("what -1", x.met(0, -1), -5);
            Due.is("thing 1", x.met(1, 0), -1);
            Due.is("thing -1", x.met(-1, 1), -1);
            Due.is("neither", x.met(1, 2), -1);
            Due.refused(x, 3, 0, 0, 0, 2, 0, 0);
        });
    }

    /** Things by worth, stays and away. */
    private static HiredToWait owned(int[]... things) {
        HiredToWait x = new HiredToWait();
        for (int[] n : things) {
            x.thing(0, 0, 0, 0, n[0], n[1], n[2]);
        }
        return x;
    }

    private static void runnersAre(HiredToWait x, int k, int worth, int bits) {
        Due.is("worth with " + k, x.runners(k, 0), worth);
        Due.is("who has one of " + k, x.runners(k, 1), bits);
    }

    private static void runners() {
        Sentence.says("With k RUNNERS (0 to 8), one for a THING at most: the greatest sum of WORTH of THINGS that are MET;",
            () -> {
            runnersAre(new HiredToWait(), 0, 0, 0);
            runnersAre(new HiredToWait(), 8, 0, 0);
            int[] far = {10, 1, 2};
            runnersAre(owned(far, far, far, far, far, far, far, far), 8, 80, 255);
            runnersAre(owned(far, far, far, far, far, far, far, far), 7, 70, 127);
            HiredToWait x = owned(far, new int[] {30, 1, 3}, new int[] {5, 1, 1}, new int[] {20, 1, 2});
            runnersAre(x, 0, 5, 0);
            runnersAre(x, 1, 35, 2);
            runnersAre(x, 2, 55, 10);
            runnersAre(x, 3, 65, 11);
        });
        Sentence.says("which THINGS have one, of several the least as bits (none that would be MET without, or isn't with).",
            () -> {
            int[] alike = {7, 1, 2};
            runnersAre(owned(alike, alike, alike), 1, 7, 1);
            runnersAre(owned(new int[] {6, 1, 2}, alike, alike), 1, 7, 2);
            runnersAre(owned(new int[] {50, 1, 1}, alike), 1, 57, 2);
            runnersAre(owned(new int[] {50, 1, 4}, alike), 1, 7, 2);
            runnersAre(owned(new int[] {50, 1, 1}, new int[] {50, 1, 4}), 8, 50, 0);
            runnersAre(owned(new int[] {0, 1, 2}, new int[] {1, 1, 2}), 2, 1, 2);
        });
        Sentence.says("Fewer than k may have a RUNNER.", () -> {
            runnersAre(owned(new int[] {7, 1, 2}), 8, 7, 1);
            runnersAre(owned(new int[] {7, 1, 1}), 1, 7, 0);
        });
        Sentence.says("With k RUNNERS: WORTH (what 0), which THINGS have one (1). -5 another what; -6 k.", () -> {
            HiredToWait x = new HiredToWait();
            Due.is("k 9", x.runners(9, 0), -6);
            Due.is("k -1", x.runners(-1, 1), -6);
            Due.is("what 2", x.runners(0, 2), -5);
            Due.is("what -1", x.runners(8, -1), -5);
            Due.is("neither", x.runners(9, 2), -5);
            Due.refused(x, 0, 0, 0, 0, 3, 2, 0);
        });
    }

    private static HiredToWait comingLate() {
        HiredToWait x = new HiredToWait();
        x.thing(0, 2, 5, 0, 0, 0, 0);
        x.thing(0, 5, 9, 9, 0, 0, 0);
        x.thing(0, 0, 23, 0, 0, 0, 0);
        return x;
    }

    private static int leftAt(long... quarters) {
        HiredToWait x = comingLate();
        Due.row(x, 0, 3, quarters);
        return x.left(0, quarters.length);
    }

    private static void left() {
        Sentence.says("LEFT: by a told ROW of quarters (0 to 23) in which a WAITER left his place, day by day: THINGS (bits) "
            + "that may be what he waits for (each quarter is one in which it can come).", () -> {
            Due.is("never", leftAt(), 7);
            Due.is("at 0", leftAt(0), 4);
            Due.is("at 1", leftAt(1), 4);
            Due.is("at 2", leftAt(2), 5);
            Due.is("at 5", leftAt(5), 7);
            Due.is("at 6", leftAt(6), 6);
            Due.is("at 9", leftAt(9), 6);
            Due.is("at 10", leftAt(10), 4);
            Due.is("at 23", leftAt(23), 4);
            Due.is("at 2, 9", leftAt(2, 9), 4);
            Due.is("at 24", leftAt(24), -6);
            Due.is("at -1", leftAt(-1), -6);
            Due.is("at last 24", leftAt(5, 5, 24), -6);
            HiredToWait x = new HiredToWait();
            x.row(0, 0, 0);
            Due.is("without things", x.left(0, 0), 0);
        });
        Sentence.says("LEFT by the first n elements (0 to 40) of the ROW in SHELF s. -1; -2; -3; -4 n; -5 fewer elements; "
            + "-6 n above 40, no quarter.", () -> {
            HiredToWait x = comingLate();
            x.waiter(0, 0, 1, 1, 0);
            x.show(1, 0);
            x.row(0, 0, 41);
            x.set(0, 39, 10);
            Due.is("0", x.left(0, 0), 7);
            Due.is("39", x.left(0, 39), 4);
            x.set(0, 39, 24);
            Due.is("the 40th isn't asked", x.left(0, 39), 4);
            Due.is("the 40th", x.left(0, 40), -6);
            x.set(0, 39, 23);
            Due.is("40", x.left(0, 40), 4);
            Due.is("41", x.left(0, 41), -6);
            Due.is("fewer", x.left(0, 42), -5);
            Due.is("far fewer", x.left(0, Integer.MAX_VALUE), -5);
            Due.is("-1", x.left(0, -1), -4);
            Due.is("shelf 8", x.left(8, -1), -1);
            Due.is("shelf -1", x.left(-1, 0), -1);
            Due.is("a waiter", x.left(1, -1), -2);
            Due.is("nothing", x.left(2, -1), -3);
            x.row(0, 0, 40);
            x.set(0, 0, -1);
            Due.is("no quarter, and fewer", x.left(0, 41), -5);
            Due.refused(x, 2, 1, 1, 1, 3, 2, 0);
        });
    }

    private static void await() {
        Sentence.says("AWAIT: how many THINGS can come in a quarter; the quarter in which most can, of several the first.", () -> {
            HiredToWait x = new HiredToWait();
            x.thing(0, 23, 23, 9, 0, 0, 0);
            Due.is("the last", x.await(-1), 23);
            Due.is("in the last", x.await(23), 1);
            Due.is("ahead of the last", x.await(22), 0);
            x.thing(0, 0, 3, 0, 0, 0, 0);
            Due.is("of several", x.await(-1), 0);
            x.thing(0, 3, 3, 0, 0, 0, 0);
            Due.is("most", x.await(-1), 3);
            Due.is("in 3", x.await(3), 2);
            Due.is("in 4", x.await(4), 0);
        });
        Sentence.says("and AWAIT is 0.", () -> {
            HiredToWait x = new HiredToWait();
            for (int q = -1; q <= 23; q++) {
                Due.is("await " + q, x.await(q), 0);
            }
        });
        Sentence.says("AWAIT: in a quarter how many; the quarter (quarter NONE). -6.", () -> {
            HiredToWait x = comingLate();
            Due.is("0", x.await(0), 1);
            Due.is("23", x.await(23), 1);
            Due.is("NONE", x.await(NONE), 5);
            Due.is("-2", x.await(-2), -6);
            Due.is("24", x.await(24), -6);
            Due.refused(x, 0, 0, 0, 0, 0, 2, 0);
        });
    }
}
