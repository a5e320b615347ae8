/** The bounds that the document names of told days, days by draws and moves; promises 29 to 35. */
final class DayBounds {
    private static final int NONE = HiredToWait.NONE;

    private DayBounds() {
    }

    static void all() {
        told();
        judged();
        behind();
        done();
        days();
        draws();
        moves();
        bodies();
        calledBodies();
        trace();
    }

    /** Things 0 and 1 are met, 2 and 7 aren't; 1 and 7 may never come. */
    private static HiredToWait guild() {
        HiredToWait x = new HiredToWait();
        x.thing(0, 2, 5, 0, 10, 3, 3);
        x.thing(0, 4, 9, 1, 20, 3, 2);
        x.thing(0, 0, 23, 0, 40, 3, 4);
        for (int t = 3; t < 7; t++) {
            x.thing(0, t, t, 0, t, 0, 0);
        }
        x.thing(0, 23, 23, 9, 99, 0, 1);
        return x;
    }

    private static void wrong(int due, long... day) {
        HiredToWait x = guild();
        Due.row(x, 0, 3, day);
        Due.is("wrong", x.judge(0, day.length), due);
    }

    private static void told() {
        Sentence.says("A told DAY: a ROW of 100 times the THING and the quarter in which it came "
            + "(NONE times 1: 99: it never came), each THING once at most:", () -> {
            wrong(NONE);
            wrong(NONE, 2);
            wrong(NONE, 5);
            wrong(0, 1);
            wrong(0, 6);
            wrong(NONE, 104);
            wrong(NONE, 109);
            wrong(0, 103);
            wrong(0, 110);
            wrong(NONE, 200);
            wrong(NONE, 223);
            wrong(0, 224);
            wrong(0, 298);
            wrong(NONE, 723);
            wrong(NONE, 799);
            wrong(0, 722);
            wrong(0, 724);
            wrong(0, 800);
            wrong(0, 823);
            wrong(0, -1);
            wrong(0, -98);
            wrong(0, -100);
            wrong(0, Integer.MIN_VALUE);
            wrong(0, Integer.MAX_VALUE);
            wrong(NONE, 2, 104, 200, 303, 404, 505, 606, 723);
        });
        Sentence.says("WRONG: the first that can't be; NONE.", () -> {
            wrong(1, 2, 1, 110, 2);
            wrong(7, 2, 104, 200, 303, 404, 505, 606, 722);
            wrong(0, 6, 2);
            HiredToWait x = guild();
            Due.row(x, 0, 2, 2, 104, 6);
            Due.is("not asked yet", x.judge(0, 2), NONE);
            Due.is("wrong", x.judge(0, 3), 2);
        });
        Sentence.says("99 for a THING with NEVER 0 is WRONG", () -> {
            wrong(0, 99);
            wrong(NONE, 199);
            wrong(0, 299);
            wrong(1, 799, 99);
        });
        Sentence.says("and so is a THING told a second time.", () -> {
            wrong(1, 2, 2);
            wrong(1, 2, 5);
            wrong(1, 199, 104);
            wrong(2, 2, 199, 199);
            wrong(7, 723, 2, 104, 200, 303, 404, 505, 799);
        });
        Sentence.says("Elements of a ROW of longs count by their lowest 32 bits wherever a ROW tells numbers or letters.", () -> {
            long high = 7L << 32;
            HiredToWait x = guild();
            Due.row(x, 0, 3, high + 2, 104 - high);
            Due.is("judge", x.judge(0, 2), NONE);
            Due.is("behind", x.behind(0, 2, 1), 30);
            Due.is("done", x.done(0, 2), 30);
            Due.row(x, 0, 3, 'h' - high, 'o' + high, 'p', 'e', ' ' + high, '5' - high);
            Due.is("guild", x.guild(0), 1);
            Due.is("hope", x.status(2), 5);
            Due.row(x, 0, 3, -1L << 32);
            Due.is("quarter 0", x.left(0, 1), 4);
            Due.row(x, 0, 3, 1L << 31);
            Due.is("the highest of the 32 is a sign", x.judge(0, 1), 0);
        });
    }

    private static void judged() {
        Sentence.says("A told DAY by the first n elements (0 to 8) of the ROW in SHELF s: WRONG; NONE. "
            + "-11; -12; -13; -14 n; -15 fewer elements; -16 n above 8 (counted as -1 to -6).", () -> {
            HiredToWait x = refusing();
            Due.is("0", x.judge(0, 0), NONE);
            Due.is("8", x.judge(0, 8), 1);
            Due.is("9", x.judge(0, 9), -16);
            Due.is("10, fewer", x.judge(0, 10), -15);
            Due.is("1 of 0", x.judge(3, 1), -15);
            Due.is("0 of 0", x.judge(3, 0), NONE);
            Due.is("-1", x.judge(0, -1), -14);
            Due.is("nothing", x.judge(2, -1), -13);
            Due.is("a waiter", x.judge(1, -1), -12);
            Due.is("shelf 8", x.judge(8, -1), -11);
            Due.is("shelf -1", x.judge(-1, 0), -11);
            Due.refused(x, 2, 1, 1, 1, 2, 1, 0);
        });
    }

    /** Shelf 0 a row of 9 elements, the second of them wrong, 1 a waiter, 2 nothing, 3 an empty row. */
    private static HiredToWait refusing() {
        HiredToWait x = guild();
        x.waiter(0, 0, 1, 1, 0);
        Due.row(x, 0, 2, 2, 3, 104, 0, 0, 0, 0, 0, 0);
        x.show(1, 0);
        x.row(3, 2, 0);
        return x;
    }

    private static void behindIs(int met, int worth, int never, long... day) {
        HiredToWait x = guild();
        Due.row(x, 0, 1, day);
        Due.is("met", x.behind(0, day.length, 0), met);
        Due.is("worth", x.behind(0, day.length, 1), worth);
        Due.is("never", x.behind(0, day.length, 2), never);
    }

    private static void behind() {
        Sentence.says("BEHIND it: how many were MET, what WORTH they had, how many never came.", () -> {
            behindIs(0, 0, 0);
            behindIs(1, 10, 0, 2);
            behindIs(0, 0, 1, 199);
            behindIs(0, 0, 0, 200);
            behindIs(1, 20, 0, 104, 223);
            behindIs(6, 48, 1, 2, 104, 200, 303, 404, 505, 606, 799);
        });
        Sentence.says("BEHIND it: MET (what 0), WORTH (1), never (2). -1; -2; -3; -4; -5 also another what; "
            + "-6 also if it is WRONG.", () -> {
            HiredToWait x = refusing();
            Due.is("right", x.behind(0, 1, 0), 1);
            Due.is("wrong", x.behind(0, 2, 0), -6);
            Due.is("9", x.behind(0, 9, 0), -6);
            Due.is("10, fewer", x.behind(0, 10, 0), -5);
            Due.is("wrong, what 3", x.behind(0, 2, 3), -5);
            Due.is("right, what -1", x.behind(0, 1, -1), -5);
            Due.is("9, what 3", x.behind(0, 9, 3), -5);
            Due.is("-1, what 3", x.behind(0, -1, 3), -4);
            Due.is("nothing", x.behind(2, -1, 3), -3);
            Due.is("a waiter", x.behind(1, -1, 3), -2);
            Due.is("shelf 8", x.behind(8, -1, 3), -1);
            Due.is("shelf -1", x.behind(-1, -1, 3), -1);
            Due.refused(x, 2, 1, 1, 1, 4, 2, 0);
        });
    }

    private static void done() {
        Sentence.says("IN TRUTH: a told DAY: TAKINGS are the WORTH more of those that came and were MET; DAYS is 1 more.", () -> {
            HiredToWait x = guild();
            Due.row(x, 0, 1, 2, 199, 200, 303);
            Due.is("none told", x.done(0, 0), 0);
            Due.is("a day all the same", x.status(3), 1);
            Due.is("one", x.done(0, 1), 10);
            Due.is("one never came", x.done(0, 2), 20);
            Due.is("one isn't met", x.done(0, 3), 30);
            Due.is("one more is", x.done(0, 4), 43);
            Due.is("days", x.status(3), 5);
            Due.is("takings", x.status(4), 43);
        });
        Sentence.says("It comes to pass in truth: TAKINGS. -1; -2; -3; -4; -5; -6 likewise.", () -> {
            HiredToWait x = refusing();
            Due.is("wrong", x.done(0, 2), -6);
            Due.is("9", x.done(0, 9), -6);
            Due.is("10, fewer", x.done(0, 10), -5);
            Due.is("-1", x.done(0, -1), -4);
            Due.is("nothing", x.done(2, -1), -3);
            Due.is("a waiter", x.done(1, -1), -2);
            Due.is("shelf 8", x.done(8, -1), -1);
            Due.is("shelf -1", x.done(-1, -1), -1);
            Due.is("no day", x.status(3), 0);
            Due.is("no takings", x.status(4), 0);
            Due.refused(x, 2, 1, 1, 1, 1, 2, 0);
        });
    }

    private static void days() {
        Sentence.says("each THING by numbers: a DRAW below its CASES: so many behind FIRST it comes; "
            + "if that is beyond LAST, never;", () -> {
            // of two cases one comes, in the very last quarter; draws of seed 1: 1, then 0, then 1
            HiredToWait x = new HiredToWait();
            x.thing(0, 23, 23, 1, 5, 0, 0);
            int seed = 1;
            int takings = 0;
            for (int day = 0; day < 50; day++) {
                seed = seed * 1103515245 + 12345;
                takings += (seed >>> 16) % 2 == 0 ? 5 : 0;
                Due.is("day " + day, x.days(1), takings);
            }
            Due.holds("some came, some never", takings > 0 && takings < 250);
            // one case: it comes each day, and draws all the same
            HiredToWait y = new HiredToWait();
            y.thing(0, 0, 0, 0, 5, 0, 0);
            Due.is("60 days", y.days(60), 300);
            Due.is("60 draws", y.status(6), seedAfter(60));
        });
        Sentence.says("DAYS by draws, n times:", () -> {
            HiredToWait x = new HiredToWait();
            x.thing(0, 3, 9, 4, 7, 0, 0);
            x.thing(0, 3, 9, 4, 7, 0, 1);
            int takings = x.days(60);
            HiredToWait y = new HiredToWait();
            y.thing(0, 3, 9, 4, 7, 0, 0);
            y.thing(0, 3, 9, 4, 7, 0, 1);
            for (int day = 1; day < 60; day++) {
                y.days(1);
            }
            Due.is("60 days at once", takings, y.days(1));
            Due.is("two draws each", x.status(6), seedAfter(120));
        });
        Sentence.says("TAKINGS likewise; WAGES: COST more for each WAITER of so many quarters as he HOLDS; DAYS 1 more.", () -> {
            HiredToWait x = new HiredToWait();
            Due.is("a day without all", x.days(1), 0);
            Due.is("no wages", x.status(5), 0);
            x.waiter(0, 0, 9, 24, 0);
            x.days(1);
            Due.is("the most", x.status(5), 216);
            x.waiter(4, 9, 9, 18, 0);
            x.days(1);
            Due.is("none for what is free", x.status(5), 432);
            x.waiter(3, 1, 1, 1, 0);
            x.days(1);
            Due.is("an endless one of patience 1", x.status(5), 650);
            Due.is("days", x.status(3), 4);
            x.thing(0, 0, 0, 0, 9, 0, 0);
            x.thing(0, 0, 0, 0, 8, 0, 1);
            Due.is("takings", x.days(1), 9);
        });
        Sentence.says("TAKINGS grow by the WORTH of those that came and are MET without RUNNERS, and COST by each day.", () -> {
            HiredToWait x = new HiredToWait();
            x.thing(0, 0, 0, 0, 10, 4, 4);
            x.thing(0, 0, 0, 0, 20, 4, 5);
            x.waiter(0, 0, 2, 3, 0);
            Due.row(x, 0, 1, 0, 100);
            Due.is("told", x.done(0, 2), 10);
            Due.is("by draws", x.days(2), 30);
            Due.is("by each day", x.status(5), 12);
        });
        Sentence.says("DAYS by draws, n (1 to 60): TAKINGS. -6.", () -> {
            HiredToWait x = new HiredToWait();
            x.thing(0, 0, 0, 0, 1, 0, 0);
            Due.is("0", x.days(0), -6);
            Due.is("-1", x.days(-1), -6);
            Due.is("61", x.days(61), -6);
            Due.is("far more", x.days(Integer.MAX_VALUE), -6);
            Due.is("1", x.days(1), 1);
            Due.is("60", x.days(60), 61);
            Due.is("days", x.status(3), 61);
            Due.refused(x, 0, 0, 0, 0, 0, 4, 0);
        });
    }

    private static int seedAfter(int draws) {
        int seed = 1;
        for (int i = 0; i < draws; i++) {
            seed = seed * 1103515245 + 12345;
        }
        return seed;
    }

    private static void draws() {
        Sentence.says("SEED (1 at first) becomes SEED times 1103515245, and 12345 (an int, wrapping);", () -> {
            HiredToWait x = new HiredToWait();
            x.thing(0, 0, 0, 0, 0, 0, 0);
            Due.is("at first", x.status(6), 1);
            x.days(1);
            Due.is("not wrapped yet", x.status(6), 1103527590);
            x.days(1);
            Due.is("wrapped", x.status(6), (int) (1103527590L * 1103515245L + 12345L));
            int[] seeds = {0, -1, Integer.MIN_VALUE, Integer.MAX_VALUE};
            for (int seed : seeds) {
                x.seed(seed);
                x.days(1);
                Due.is("of " + seed, x.status(6), (int) (seed * 1103515245L + 12345L));
            }
        });
        Sentence.says("A DRAW below n: SEED (1 at first)", () -> Due.is("seed", new HiredToWait().status(6), 1));
        Sentence.says("its upper 16 bits, no sign, modulo n.", () -> {
            int negative = 0;
            for (int seed = 0; seed < 40; seed++) {
                HiredToWait x = new HiredToWait();
                x.thing(0, 0, 13, 9, 1, 0, 0);
                x.seed(seed);
                int next = (int) (seed * 1103515245L + 12345L);
                int upper = (int) ((next & 0xFFFFFFFFL) / 65536);
                Due.is("seed " + seed, x.days(1), upper % 23 <= 13 ? 1 : 0);
                if (next < 0) negative++;
            }
            Due.holds("seeds of both signs", negative > 5 && negative < 35);
        });
        Sentence.says("SEED becomes v: what it was (nothing is refused).", () -> {
            HiredToWait x = new HiredToWait();
            Due.is("least", x.seed(Integer.MIN_VALUE), 1);
            Due.is("most", x.seed(Integer.MAX_VALUE), Integer.MIN_VALUE);
            Due.is("0", x.seed(0), Integer.MAX_VALUE);
            Due.is("-6", x.seed(-6), 0);
            Due.is("kept", x.status(6), -6);
            Due.refused(x, 0, 0, 0, 0, 0, 0, 0);
        });
    }

    /** Six waiters with a 9, by these kinds. */
    private static HiredToWait men(int... kinds) {
        HiredToWait x = new HiredToWait();
        for (int kind : kinds) {
            x.waiter(kind, 9, 1, 1, 0);
        }
        return x;
    }

    private static void moves() {
        Sentence.says("MOVES of WAITERS, with x (wrapping): 0 waits, 1 looks, 2 sends; m the number, k its a.", () -> {
            int most = Integer.MAX_VALUE;
            int least = Integer.MIN_VALUE;
            HiredToWait x = men(0, 0, 1, 3, 2, 6);
            Due.is("x + m", x.act(1, 0, most), least);
            Due.is("times 2", x.act(0, 1, 1 << 30), least);
            Due.is("x - k", x.act(0, 2, least + 8), 16 ^ most);
            Due.is("and k", x.act(2, 0, most - 10), least);
            Due.is("x + 1", x.act(3, 0, most), least + 12);
            Due.is("times 3", x.act(4, 1, most - 4), -6);
            // 71: x - 9 wraps; 70: 51: of most - 8, and 5, less 5, twice; twice again
            Due.is("a hoper's x - k", x.act(5, 1, least), (most - 8) * 4);
            HiredToWait y = men(4);
            // 12: the looks of it, twice 0, by the waits of x - 9
            Due.is("the least can't be turned", y.act(0, 2, least + 9), -((least + 9) * 2 ^ least));
        });
        Sentence.says("A MOVE of a WAITER with x. 0, and no TRACE then: no such WAITER, move.", () -> {
            HiredToWait x = men(0, 1);
            int[][] wrong = {{2, 0}, {-1, 0}, {0, 3}, {0, -1}, {2, 3}, {Integer.MAX_VALUE, Integer.MIN_VALUE}};
            for (int[] call : wrong) {
                Due.is("a move", x.act(1, 0, 5), 15);
                Due.is("its trace", x.trace(0), 20);
                Due.is("no move", x.act(call[0], call[1], 5), 0);
                Due.is("no trace", x.trace(0), NONE);
            }
            Due.is("the last move", x.act(1, 2, 0), 20 ^ 1);
            Due.refused(x, 0, 0, 0, 0, 0, 0, 0);
        });
        Sentence.says("A refused act() leaves an empty TRACE.", () -> {
            HiredToWait x = men(6);
            x.act(0, 2, 5);
            Due.is("ten bodies", x.status(7), 10);
            Due.is("nobody", x.act(1, 2, 5), 0);
            for (int i = 0; i < 20; i++) {
                Due.is("trace " + i, x.trace(i), NONE);
            }
            Due.is("no bodies", x.status(7), 0);
        });
    }

    /** A waiter of the kind, with a 9 and the number 1, makes a move with 5. */
    private static void ran(int kind, int move, int answer, int... bodies) {
        HiredToWait x = men(0, kind);
        Due.is("kind " + kind + " makes move " + move, x.act(1, move, 5), answer);
        for (int i = 0; i < bodies.length; i++) {
            Due.is("trace " + i, x.trace(i), bodies[i]);
        }
        Due.is("bodies", x.status(7), bodies.length);
    }

    private static void bodies() {
        Sentence.says("BODIES, each with its number: WAITER: 10 waits: x + m.", () -> ran(0, 0, 6, 10));
        Sentence.says("11 looks: waits(x) * 2.", () -> ran(0, 1, 12, 11, 10));
        Sentence.says("12 sends: looks(x) ^ waits(x - k).", () -> ran(0, 2, 12 ^ -3, 12, 11, 10, 10));
        Sentence.says("MASTER: 20 waits: super.waits(x) + k.", () -> ran(1, 0, 15, 20, 10));
        Sentence.says("LOVER: 30 looks: super.looks(x) * 3.", () -> ran(2, 1, 36, 30, 11, 10));
        Sentence.says("ENDLESS: 40 waits: super.waits(x + 1).", () -> ran(3, 0, 16, 40, 20, 10));
        Sentence.says("APPRENTICE: 50 sends: -super.sends(x).", () -> ran(4, 2, -(10 ^ -4), 50, 12, 11, 51, 10, 51, 10));
        Sentence.says("51 waits: super.waits(x) - m.", () -> ran(4, 0, 5, 51, 10));
        Sentence.says("RELIEVER: 60 sends: super.sends(x) ^ 5.", () -> ran(5, 2, 36 ^ -3 ^ 5, 60, 12, 30, 11, 10, 10));
        Sentence.says("HOPER: 70 waits: super.waits(x) * 2.", () -> ran(6, 0, 10, 70, 51, 10));
        Sentence.says("71 looks: super.looks(x - k).", () -> ran(6, 1, -16, 71, 11, 70, 51, 10));
    }

    private static void calledBodies() {
        Sentence.says("waits(..) and so on: the body of the WAITER's KIND, or of the next KIND above that has one;", () -> {
            ran(1, 1, 30, 11, 20, 10);
            ran(3, 1, 32, 11, 40, 20, 10);
            ran(2, 0, 6, 10);
            ran(5, 0, 6, 10);
            ran(5, 1, 36, 30, 11, 10);
            ran(4, 1, 10, 11, 51, 10);
        });
        Sentence.says("super: from the KIND above the body's on.", () -> {
            ran(3, 2, 32 ^ 7, 12, 11, 40, 20, 10, 40, 20, 10);
            ran(6, 2, -(-16 ^ -8), 50, 12, 71, 11, 70, 51, 10, 70, 51, 10);
            ran(2, 2, 36 ^ -3, 12, 30, 11, 10, 10);
        });
    }

    private static void trace() {
        Sentence.says("THE TRACE: the numbers of the bodies that ran in the latest act(), in the order in which they began; "
            + "the first 20 are kept.", () -> {
            // no move of the document has more than these ten
            int[] due = {50, 12, 71, 11, 70, 51, 10, 70, 51, 10};
            HiredToWait x = men(6);
            x.act(0, 2, 5);
            for (int i = 0; i < due.length; i++) {
                Due.is("trace " + i, x.trace(i), due[i]);
            }
            Due.is("none behind it", x.trace(10), NONE);
            x.act(0, 0, 5);
            Due.is("the latest", x.trace(0), 70);
            Due.is("its last", x.trace(2), 10);
            Due.is("nothing of the one ahead", x.trace(3), NONE);
        });
        Sentence.says("THE TRACE's i-th body. NONE: none such.", () -> {
            HiredToWait x = men(0);
            Due.is("none yet", x.trace(0), NONE);
            x.act(0, 0, 0);
            Due.is("0", x.trace(0), 10);
            int[] none = {-1, 1, 19, 20, 21, Integer.MAX_VALUE, Integer.MIN_VALUE};
            for (int i : none) {
                Due.is("trace " + i, x.trace(i), NONE);
            }
            Due.refused(x, 0, 0, 0, 0, 0, 0, 0);
        });
    }
}
