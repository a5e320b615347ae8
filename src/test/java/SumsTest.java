import java.util.Arrays;

/** Promises 7 and 14 to 28 over many guilds, each sum found by going through all that there is. */
public final class SumsTest {
    private static final int[] KINDS_SEE = {0, 1, 0, 2, 0, 0, 1};
    private static int drawn = 12345;

    private HiredToWait x = new HiredToWait();
    private final int things = below(9);
    private final int waiters = below(7);
    private final int[][] thing = new int[things][];
    private final int[][] waiter = new int[waiters][];
    private final int hope = below(10);

    public static void main(String[] args) {
        for (int i = 0; i < 400; i++) {
            SumsTest guild = new SumsTest();
            guild.draw();
            guild.found();
            guild.compareWaits();
            guild.compareRotas();
            guild.comparePosts();
            guild.compareRunners();
            // anew, since an object is used for 512 calls at most
            guild.found();
            guild.compareQuarters();
        }
        Due.end();
    }

    private static int below(int n) {
        drawn = drawn * 1664525 + 1013904223;
        return (drawn >>> 12) % n;
    }

    private void draw() {
        for (int t = 0; t < things; t++) {
            int first = below(24);
            int last = first + below(24 - first);
            int worth = below(4) == 0 ? 50 : below(100);
            thing[t] = new int[] {below(10), first, last, below(10), worth, below(10), below(21)};
        }
        for (int w = 0; w < waiters; w++) {
            waiter[w] = new int[] {below(7), below(10), 1 + below(9), 1 + below(24), below(10)};
        }
    }

    private void found() {
        x = new HiredToWait();
        x.ask(hope);
        for (int t = 0; t < things; t++) {
            int[] n = thing[t];
            Due.is("thing", x.thing(n[0], n[1], n[2], n[3], n[4], n[5], n[6]), t);
        }
        for (int w = 0; w < waiters; w++) {
            int[] n = waiter[w];
            Due.is("waiter", x.waiter(n[0], n[1], n[2], n[3], n[4]), w);
        }
    }

    private int held(int w) {
        int patience = waiter[w][3];
        int[] byKind = {patience, patience * 2, patience + waiter[w][1], 24, patience - patience / 2,
            patience + waiter[w][1] == 1 ? 1 : patience + waiter[w][1] - 1, patience - patience / 2 + hope};
        return byKind[waiter[w][0]] > 24 ? 24 : byKind[waiter[w][0]];
    }

    private int pay(int w, int n) {
        int a = waiter[w][1];
        int pay = waiter[w][2];
        if (n == 0) return 0;
        int few = n > waiter[w][3] ? waiter[w][3] : n;
        int half = pay * n - pay * n / 2;
        int beyond = n > a ? pay * (n - a) : 0;
        int[] byKind = {pay * n, pay * n + a, half, pay * few + a, beyond, half + 1, beyond + hope * n};
        return byKind[waiter[w][0]];
    }

    private void compareWaits() {
        for (int w = 0; w < waiters; w++) {
            Due.is("holds", x.waiterOf(w, 5), held(w));
            Due.is("sees", x.waiterOf(w, 6), KINDS_SEE[waiter[w][0]]);
            for (int n = 0; n <= 24; n++) {
                Due.is("cost", x.cost(w, n), pay(w, n));
            }
        }
        for (int t = 0; t < things; t++) {
            int best = -1;
            int most = 0;
            for (int w = 0; w < waiters; w++) {
                int[] stop = stop(t, w);
                Due.is("stop", x.stop(t, w, 0), stop[0]);
                Due.is("gain", x.stop(t, w, 1), stop[1]);
                if (stop[1] > most) {
                    best = w;
                    most = stop[1];
                }
            }
            Due.is("best", x.best(t), best);
        }
    }

    /** The quarter, and the gain, case by case. */
    private int[] stop(int t, int w) {
        int[] chosen = {-1, 0};
        for (int q = thing[t][1]; q <= thing[t][2] && q - thing[t][1] + 1 <= held(w); q++) {
            int gain = 0;
            int cases = thing[t][2] - thing[t][1] + 1 + thing[t][3];
            for (int c = 0; c < cases; c++) {
                int comes = thing[t][1] + c;
                boolean inTime = comes <= thing[t][2] && comes <= q;
                gain += inTime ? thing[t][4] - pay(w, c + 1) : -pay(w, q - thing[t][1] + 1);
            }
            if (gain > chosen[1]) chosen = new int[] {q, gain};
        }
        return chosen;
    }

    private void compareRotas() {
        for (int t = 0; t < things; t++) {
            int quarters = thing[t][2] - thing[t][1] + 1;
            // going through all rows of a long day would take too long with all six
            if (waiters > 4 && quarters > 9) continue;
            int[] best = new int[waiters + 1];
            best[waiters] = Integer.MAX_VALUE;
            tryRows(new int[waiters], 0, quarters, best);
            boolean can = best[waiters] < Integer.MAX_VALUE;
            Due.is("rota cost", x.rota(t, -1), can ? best[waiters] : -1);
            for (int w = 0; w < waiters; w++) {
                Due.is("rota share", x.rota(t, w), can ? best[w] : -1);
            }
        }
    }

    private void tryRows(int[] row, int w, int open, int[] best) {
        if (w == waiters) {
            int cost = 0;
            for (int i = 0; i < waiters; i++) {
                cost += pay(i, row[i]);
            }
            if (open == 0 && cost < best[waiters]) {
                System.arraycopy(row, 0, best, 0, waiters);
                best[waiters] = cost;
            }
            return;
        }
        for (int n = 0; n <= open && n <= held(w); n++) {
            row[w] = n;
            tryRows(row, w + 1, open - n, best);
        }
    }

    private int seenFrom(int w, int corner) {
        int bits = 0;
        for (int t = 0; t < things; t++) {
            int off = thing[t][0] > corner ? thing[t][0] - corner : corner - thing[t][0];
            if (off <= KINDS_SEE[waiter[w][0]]) bits += 1 << t;
        }
        return bits;
    }

    private int worth(int bits) {
        int sum = 0;
        for (int t = 0; t < things; t++) {
            sum += (bits & 1 << t) != 0 ? thing[t][4] : 0;
        }
        return sum;
    }

    private void comparePosts() {
        for (int w = 0; w < waiters; w++) {
            int lookouts = 0;
            int stand = 0;
            for (int corner = 9; corner >= 0; corner--) {
                if (seenFrom(w, corner) != 0) lookouts += 1 << corner;
            }
            for (int corner = 1; corner < 10; corner++) {
                if (worth(seenFrom(w, corner)) > worth(seenFrom(w, stand))) stand = corner;
            }
            Due.is("seen", x.seen(w, 0), seenFrom(w, waiter[w][4]));
            Due.is("stand", x.seen(w, 1), stand);
            Due.is("lookouts", x.lookouts(w), lookouts);
        }
        int fewest = -1;
        for (int posted = (1 << waiters) - 1; posted >= 0; posted--) {
            int bits = 0;
            for (int w = 0; w < waiters; w++) {
                if ((posted & 1 << w) != 0) bits |= seenFrom(w, waiter[w][4]);
            }
            boolean all = bits == (1 << things) - 1;
            if (all && (fewest == -1 || Integer.bitCount(posted) <= Integer.bitCount(fewest))) fewest = posted;
        }
        Due.is("posts", x.posts(0), fewest == -1 ? -1 : Integer.bitCount(fewest));
        Due.is("posts' bits", x.posts(1), fewest);
    }

    private void compareRunners() {
        for (int k = 0; k <= 8; k++) {
            int bits = -1;
            int most = -1;
            for (int run = 0; run < 1 << things; run++) {
                if (Integer.bitCount(run) > k || !isAllowed(run)) continue;
                int sum = 0;
                for (int t = 0; t < things; t++) {
                    if (isMet(t, (run & 1 << t) != 0)) sum += thing[t][4];
                }
                if (sum > most) {
                    most = sum;
                    bits = run;
                }
            }
            Due.is("runners", x.runners(k, 0), most);
            Due.is("runners' bits", x.runners(k, 1), bits);
        }
    }

    private boolean isMet(int t, boolean byRunner) {
        int away = byRunner ? thing[t][6] / 2 : thing[t][6];
        return away <= thing[t][5];
    }

    private boolean isAllowed(int run) {
        for (int t = 0; t < things; t++) {
            if ((run & 1 << t) != 0 && (isMet(t, false) || !isMet(t, true))) return false;
        }
        return true;
    }

    private void compareQuarters() {
        int[] count = new int[24];
        for (int t = 0; t < things; t++) {
            for (int q = 0; q < 24; q++) {
                int came = 0;
                for (int r = thing[t][1]; r <= thing[t][2] && r <= q; r++) {
                    came++;
                }
                Due.is("by", x.by(t, q), came);
                if (q >= thing[t][1] && q <= thing[t][2]) count[q]++;
            }
        }
        int fullest = 0;
        for (int q = 0; q < 24; q++) {
            Due.is("await", x.await(q), count[q]);
            if (count[q] > count[fullest]) fullest = q;
        }
        Due.is("await when", x.await(-1), fullest);
        compareLeft(new int[] {below(24), below(24), below(24)});
    }

    private void compareLeft(int[] quarters) {
        Due.row(x, 0, 0, Arrays.stream(quarters).asLongStream().toArray());
        for (int n = 0; n <= quarters.length; n++) {
            int bits = 0;
            for (int t = 0; t < things; t++) {
                boolean may = true;
                for (int i = 0; i < n; i++) {
                    may = may && quarters[i] >= thing[t][1] && quarters[i] <= thing[t][2];
                }
                if (may) bits += 1 << t;
            }
            Due.is("left", x.left(0, n), bits);
        }
    }
}
