import java.util.ArrayList;
import java.util.Arrays;
import java.util.List;
import java.util.Set;

/** The document once more, call by call and by going through all that there is: what WalkTest holds the class against. */
final class Model {
    private static final int NONE = -1;
    private static final Set<String> APART = Set.of("stop", "best", "rota", "posts", "judge");
    private static final int[] ABOVE = {NONE, 0, 0, 1, 0, 2, 4};
    private static final int[] SIGHT = {0, 1, 0, 2, 0, 0, 1};

    private static final class Refused extends RuntimeException {
        private static final long serialVersionUID = 1;
        final int number;

        Refused(int number) {
            super(null, null, false, false);
            this.number = number;
        }
    }

    record Thing(int corner, int first, int last, int never, int worth, int stays, int away) {
        int cases() {
            return last - first + 1 + never;
        }

        boolean isMet(int away) {
            return away <= stays;
        }
    }

    record Man(int kind, int a, int pay, int patience, int at) {
        Man movedTo(int corner) {
            return new Man(kind, a, pay, patience, corner);
        }

        int holds(int hope) {
            int half = patience / 2 + patience % 2;
            int[] byKind = {patience, patience * 2, patience + a, 24, half, Math.max(1, patience + a - 1), half + hope};
            return Math.min(24, byKind[kind]);
        }

        int cost(int n, int hope) {
            if (n == 0) return 0;
            int half = pay * n / 2 + pay * n % 2;
            int beyond = Math.max(0, n - a) * pay;
            int[] byKind = {pay * n, pay * n + a, half, pay * Math.min(n, patience) + a, beyond, half + 1, beyond + hope * n};
            return byKind[kind];
        }
    }

    private record Row(int sort, long[] elements) {
    }

    /** All that an image keeps. */
    record Truth(List<Thing> things, List<Man> men, int hope, int days, int takings, int wages, int seed) {
        Truth with(Thing thing) {
            List<Thing> more = new ArrayList<>(things);
            more.add(thing);
            return new Truth(more, men, hope, days, takings, wages, seed);
        }

        Truth with(Man man) {
            List<Man> more = new ArrayList<>(men);
            more.add(man);
            return new Truth(things, more, hope, days, takings, wages, seed);
        }

        Truth with(int w, Man man) {
            List<Man> other = new ArrayList<>(men);
            other.set(w, man);
            return new Truth(things, other, hope, days, takings, wages, seed);
        }

        Truth withHope(int v) {
            return new Truth(things, men, v, days, takings, wages, seed);
        }

        Truth withSeed(int v) {
            return new Truth(things, men, hope, days, takings, wages, v);
        }

        Truth aDayOn(int taken, int paid) {
            return new Truth(things, men, hope, days + 1, takings + taken, wages + paid, seed);
        }
    }

    private final Object[] shelves = new Object[8];
    private final int[] refusals = new int[8];
    private Truth truth = new Truth(List.of(), List.of(), 1, 0, 0, 0, 1);
    private Truth image = null;
    private int fault = NONE;
    private List<Integer> trace = List.of();

    int things() {
        return truth.things.size();
    }

    int men() {
        return truth.men.size();
    }

    Thing thing(int t) {
        return truth.things.get(t);
    }

    long answer(String call, long... told) {
        try {
            return told(call, Arrays.stream(told).mapToInt(v -> (int) v).toArray(), told.length > 2 ? told[2] : 0);
        } catch (Refused r) {
            refusals[r.number]++;
            return -r.number - (APART.contains(call) ? 10 : 0);
        }
    }

    private long told(String call, int[] n, long v) {
        switch (call) {
            case "row": return row(n[0], n[1], n[2]);
            case "set": return set(n[0], n[1], v);
            case "copy": return copy(n[0], n[1], n[2], n[3], n[4]);
            case "element": return element(n[0], n[1]);
            case "show": return show(n[0], n[1]);
            case "holds": return holds(n[0]);
            case "says": return says(n[0], n[1]);
            case "thing": return thing(n);
            case "waiter": return waiter(n);
            case "move": return move(n[0], n[1]);
            case "ask": return ask(n[0]);
            case "thingOf": return thingOf(n[0], n[1]);
            case "waiterOf": return waiterOf(n[0], n[1]);
            case "cost": return cost(n[0], n[1]);
            case "guild": return guild(n[0]);
            case "fault": return fault;
            case "by": return by(n[0], n[1]);
            case "stop": return stop(n[0], n[1], n[2]);
            case "best": return best(n[0]);
            default: return toldOfMore(call, n);
        }
    }

    private long toldOfMore(String call, int[] n) {
        switch (call) {
            case "lookouts": return lookouts(n[0]);
            case "rota": return rota(n[0], n[1]);
            case "posts": return posts(n[0]);
            case "seen": return seen(n[0], n[1]);
            case "met": return met(n[0], n[1]);
            case "runners": return runners(n[0], n[1]);
            case "left": return left(n[0], n[1]);
            case "await": return await(n[0]);
            case "judge": return wrong(day(n[0], n[1], 0, 0));
            case "behind": return behind(n[0], n[1], n[2]);
            case "done": return done(n[0], n[1]);
            case "days": return days(n[0]);
            case "seed": return seed(n[0]);
            case "act": return act(n[0], n[1], n[2]);
            case "trace": return n[0] >= 0 && n[0] < Math.min(20, trace.size()) ? trace.get(n[0]) : NONE;
            case "image": return image();
            case "restore": return restore();
            case "status": return status(n[0]);
            default: throw new IllegalArgumentException(call);
        }
    }

    // ---- refusals ----

    private static void demand(boolean stands, int otherwise) {
        if (!stands) throw new Refused(otherwise);
    }

    private static boolean in(int v, int least, int most) {
        return least <= v && v <= most;
    }

    private void demandShelf(int s) {
        demand(in(s, 0, 7), 1);
    }

    private void demandThing(int t, int otherwise) {
        demand(in(t, 0, things() - 1), otherwise);
    }

    private void demandMan(int w, int otherwise) {
        demand(in(w, 0, men() - 1), otherwise);
    }

    private Row rowIn(int s) {
        demandShelf(s);
        demand(!(shelves[s] instanceof Integer), 2);
        demand(shelves[s] != null, 3);
        return (Row) shelves[s];
    }

    // ---- shelves ----

    private long row(int s, int sort, int n) {
        demandShelf(s);
        demand(n >= 0, 4);
        demand(in(sort, 0, 3), 6);
        demand(n <= 160, 7);
        shelves[s] = new Row(sort, new long[n]);
        return 1;
    }

    private long set(int s, int i, long v) {
        Row row = rowIn(s);
        demand(in(i, 0, row.elements.length - 1), 5);
        int highBits = row.sort == 0 ? 56 : row.sort == 1 ? 48 : row.sort == 2 ? 32 : 0;
        row.elements[i] = v << highBits >> highBits;
        return 1;
    }

    private long copy(int p, int q, int i, int j, int n) {
        demandShelf(p);
        demandShelf(q);
        demand(!(shelves[p] instanceof Integer) && !(shelves[q] instanceof Integer), 2);
        Row from = (Row) shelves[p];
        Row to = (Row) shelves[q];
        demand(from == null || to == null || from.sort == to.sort, 2);
        demand(from != null && to != null, 3);
        demand(n >= 0, 4);
        demand(i >= 0 && j >= 0, 5);
        demand((long) i + n <= from.elements.length && (long) j + n <= to.elements.length, 5);
        long[] ahead = from.elements.clone();
        for (int k = 0; k < n; k++) {
            to.elements[j + k] = ahead[i + k];
        }
        return 1;
    }

    private long element(int s, int i) {
        if (!in(s, 0, 7) || !(shelves[s] instanceof Row)) return 0;
        long[] elements = ((Row) shelves[s]).elements;
        return in(i, 0, elements.length - 1) ? elements[i] : 0;
    }

    private long show(int s, int w) {
        demandShelf(s);
        if (w != NONE) demandMan(w, 1);
        shelves[s] = w == NONE ? null : (Object) w;
        return w == NONE ? 0 : 1;
    }

    private long holds(int s) {
        if (!in(s, 0, 7) || shelves[s] == null) return NONE;
        return shelves[s] instanceof Row ? 100 + ((Row) shelves[s]).sort : (Integer) shelves[s];
    }

    private long says(int s, int kind) {
        demandShelf(s);
        demand(in(kind, 0, 6), 1);
        demand(!(shelves[s] instanceof Row), 2);
        demand(shelves[s] != null, 3);
        Man man = truth.men.get((Integer) shelves[s]);
        boolean is = man.kind == kind || ABOVE[man.kind] == kind || man.kind != 0 && kind == 0;
        demand(is, 2);
        return new int[] {man.at, man.patience, man.a, man.patience, man.pay, man.a, man.pay}[kind];
    }

    // ---- the guild ----

    private long thing(int[] n) {
        int[] most = {9, 23, 23, 9, 99, 9, 20};
        for (int i = 0; i < 7; i++) {
            demand(in(n[i], 0, most[i]), 6);
        }
        demand(n[2] >= n[1], 6);
        demand(things() < 8, 7);
        truth = truth.with(new Thing(n[0], n[1], n[2], n[3], n[4], n[5], n[6]));
        return things() - 1;
    }

    private long waiter(int[] n) {
        demand(in(n[0], 0, 6), 1);
        demand(in(n[1], 0, 9) && in(n[2], 1, 9) && in(n[3], 1, 24) && in(n[4], 0, 9), 6);
        demand(men() < 6, 7);
        truth = truth.with(new Man(n[0], n[1], n[2], n[3], n[4]));
        return men() - 1;
    }

    private long move(int w, int corner) {
        demandMan(w, 1);
        demand(in(corner, 0, 9), 6);
        Man man = truth.men.get(w);
        truth = truth.with(w, man.movedTo(corner));
        return man.at;
    }

    private long ask(int v) {
        demand(in(v, 0, 9), 6);
        int before = truth.hope;
        truth = truth.withHope(v);
        return before;
    }

    private long thingOf(int t, int what) {
        demandThing(t, 5);
        demand(in(what, 0, 7), 5);
        Thing thing = thing(t);
        return new int[] {thing.corner, thing.first, thing.last, thing.never, thing.worth, thing.stays, thing.away,
            thing.cases()}[what];
    }

    private long waiterOf(int w, int what) {
        demandMan(w, 5);
        demand(in(what, 0, 6), 5);
        Man man = truth.men.get(w);
        return new int[] {man.kind, man.a, man.pay, man.patience, man.at, man.holds(truth.hope), SIGHT[man.kind]}[what];
    }

    private long cost(int w, int n) {
        demandMan(w, 1);
        demand(in(n, 0, 24), 6);
        return truth.men.get(w).cost(n, truth.hope);
    }

    private long guild(int s) {
        Row row = rowIn(s);
        StringBuilder letters = new StringBuilder();
        for (long element : row.elements) {
            int letter = (int) element;
            letters.append(letter > 0 && letter < 128 ? (char) letter : '\uFFFF');
        }
        ModelText text = new ModelText(letters.toString(), truth);
        fault = text.fault;
        demand(fault == NONE, 6);
        truth = text.truth;
        return text.items;
    }

    // ---- waiting ----

    private long by(int t, int quarter) {
        demandThing(t, 1);
        demand(in(quarter, 0, 23), 6);
        return quartersIn(thing(t)).filter(q -> q <= quarter).count();
    }

    private static java.util.stream.IntStream quartersIn(Thing thing) {
        return java.util.stream.IntStream.rangeClosed(thing.first, thing.last);
    }

    private int gain(Thing thing, Man man, int end) {
        int gain = 0;
        for (int c = 0; c < thing.cases(); c++) {
            boolean comes = c <= thing.last - thing.first && c <= end - thing.first;
            gain += comes ? thing.worth : 0;
            gain -= man.cost(comes ? c + 1 : end - thing.first + 1, truth.hope);
        }
        return gain;
    }

    /** The quarter and the gain by it; NONE and 0. */
    private int[] bestStop(Thing thing, Man man) {
        int[] best = {NONE, 0};
        for (int q = thing.last; q >= thing.first; q--) {
            if (q - thing.first >= man.holds(truth.hope)) continue;
            int gain = gain(thing, man, q);
            if (gain > 0 && gain >= best[1]) best = new int[] {q, gain};
        }
        return best;
    }

    private long stop(int t, int w, int what) {
        demandThing(t, 1);
        demandMan(w, 1);
        demand(in(what, 0, 1), 5);
        return bestStop(thing(t), truth.men.get(w))[what];
    }

    private long best(int t) {
        demandThing(t, 1);
        int best = NONE;
        for (int w = men() - 1; w >= 0; w--) {
            int gain = bestStop(thing(t), truth.men.get(w))[1];
            if (gain > 0 && (best == NONE || gain >= bestStop(thing(t), truth.men.get(best))[1])) best = w;
        }
        return best;
    }

    private long rota(int t, int i) {
        demandThing(t, 1);
        demand(i == NONE || in(i, 0, men() - 1), 5);
        int quarters = thing(t).last - thing(t).first + 1;
        // by quarters waited so far: the first of the cheapest rows, and behind it its cost
        int[][] rows = new int[quarters + 1][];
        rows[0] = new int[men() + 1];
        for (int w = 0; w < men(); w++) {
            rows = rowsWith(w, rows);
        }
        if (rows[quarters] == null) return NONE;
        return rows[quarters][i == NONE ? men() : i];
    }

    private int[][] rowsWith(int w, int[][] rows) {
        int[][] more = new int[rows.length][];
        for (int waited = 0; waited < rows.length; waited++) {
            for (int n = 0; rows[waited] != null && n <= truth.men.get(w).holds(truth.hope); n++) {
                if (waited + n >= rows.length) break;
                int[] row = rows[waited].clone();
                row[w] = n;
                row[men()] += truth.men.get(w).cost(n, truth.hope);
                if (more[waited + n] == null || isAhead(row, more[waited + n])) more[waited + n] = row;
            }
        }
        return more;
    }

    private boolean isAhead(int[] row, int[] other) {
        if (row[men()] != other[men()]) return row[men()] < other[men()];
        return Arrays.compare(row, other) < 0;
    }

    private int seenFrom(Man man, int corner) {
        int bits = 0;
        for (int t = 0; t < things(); t++) {
            int at = thing(t).corner;
            if (at >= corner - SIGHT[man.kind] && at <= corner + SIGHT[man.kind]) bits += 1 << t;
        }
        return bits;
    }

    private int worth(int bits) {
        int worth = 0;
        for (int t = 0; t < things(); t++) {
            if ((bits & 1 << t) != 0) worth += thing(t).worth;
        }
        return worth;
    }

    private long lookouts(int w) {
        demandMan(w, 1);
        int bits = 0;
        for (int corner = 0; corner < 10; corner++) {
            if (seenFrom(truth.men.get(w), corner) > 0) bits += 1 << corner;
        }
        return bits;
    }

    private long posts(int what) {
        demand(in(what, 0, 1), 5);
        for (int count = 0; count <= men(); count++) {
            for (int posted = 0; posted < 1 << men(); posted++) {
                int seen = 0;
                for (int w = 0; w < men(); w++) {
                    if ((posted & 1 << w) != 0) seen |= seenFrom(truth.men.get(w), truth.men.get(w).at);
                }
                if (Integer.bitCount(posted) == count && Integer.bitCount(seen) == things()) return what == 0 ? count : posted;
            }
        }
        return NONE;
    }

    private long seen(int w, int what) {
        demandMan(w, 1);
        demand(in(what, 0, 1), 5);
        Man man = truth.men.get(w);
        if (what == 0) return seenFrom(man, man.at);
        int stand = 9;
        for (int corner = 8; corner >= 0; corner--) {
            if (worth(seenFrom(man, corner)) >= worth(seenFrom(man, stand))) stand = corner;
        }
        return stand;
    }

    private long met(int t, int what) {
        demandThing(t, 1);
        demand(in(what, 0, 1), 5);
        return thing(t).isMet(what == 0 ? thing(t).away : thing(t).away / 2) ? 1 : 0;
    }

    private long runners(int k, int what) {
        demand(in(what, 0, 1), 5);
        demand(in(k, 0, 8), 6);
        int most = -1;
        int chosen = 0;
        for (int bits = 0; bits < 1 << things(); bits++) {
            int sum = Integer.bitCount(bits) <= k ? worthMetWith(bits) : -1;
            if (sum > most) {
                most = sum;
                chosen = bits;
            }
        }
        return what == 0 ? most : chosen;
    }

    /** -1 if one has a runner who needs none, or whom a runner doesn't help. */
    private int worthMetWith(int bits) {
        int sum = 0;
        for (int t = 0; t < things(); t++) {
            boolean alone = met(t, 0) == 1;
            boolean byRunner = met(t, 1) == 1;
            boolean has = (bits & 1 << t) != 0;
            if (has && (alone || !byRunner)) return -1;
            if (alone || has) sum += thing(t).worth;
        }
        return sum;
    }

    private long left(int s, int n) {
        Row row = rowIn(s);
        demand(n >= 0, 4);
        demand(n <= row.elements.length, 5);
        demand(n <= 40, 6);
        int[] quarters = Arrays.stream(row.elements).limit(n).mapToInt(v -> (int) v).toArray();
        demand(Arrays.stream(quarters).allMatch(q -> in(q, 0, 23)), 6);
        int bits = 0;
        for (int t = 0; t < things(); t++) {
            Thing thing = thing(t);
            if (Arrays.stream(quarters).allMatch(q -> in(q, thing.first, thing.last))) bits += 1 << t;
        }
        return bits;
    }

    private long await(int quarter) {
        demand(in(quarter, -1, 23), 6);
        if (quarter != NONE) return truth.things.stream().filter(t -> in(quarter, t.first, t.last)).count();
        int chosen = 23;
        for (int q = 22; q >= 0; q--) {
            if (await(q) >= await(chosen)) chosen = q;
        }
        return chosen;
    }

    // ---- days ----

    private int[] day(int s, int n, int what, int mostWhat) {
        Row row = rowIn(s);
        demand(n >= 0, 4);
        demand(n <= row.elements.length && in(what, 0, mostWhat), 5);
        demand(n <= 8, 6);
        return Arrays.stream(row.elements).limit(n).mapToInt(v -> (int) v).toArray();
    }

    private int wrong(int[] day) {
        List<Integer> told = new ArrayList<>();
        for (int i = 0; i < day.length; i++) {
            int t = Math.floorDiv(day[i], 100);
            int quarter = Math.floorMod(day[i], 100);
            if (!in(t, 0, things() - 1) || told.contains(t)) return i;
            boolean may = quarter == 99 ? thing(t).never > 0 : in(quarter, thing(t).first, thing(t).last);
            if (!may) return i;
            told.add(t);
        }
        return NONE;
    }

    private int[] rightDay(int s, int n, int what, int mostWhat) {
        int[] day = day(s, n, what, mostWhat);
        demand(wrong(day) == NONE, 6);
        return day;
    }

    private long behind(int s, int n, int what) {
        int[] sums = new int[3];
        for (int told : rightDay(s, n, what, 2)) {
            boolean came = told % 100 != 99;
            boolean isMet = came && met(told / 100, 0) == 1;
            sums[0] += isMet ? 1 : 0;
            sums[1] += isMet ? thing(told / 100).worth : 0;
            sums[2] += came ? 0 : 1;
        }
        return sums[what];
    }

    private long done(int s, int n) {
        rightDay(s, n, 0, 0);
        truth = truth.aDayOn((int) behind(s, n, 1), 0);
        return truth.takings;
    }

    private int draw(int below) {
        long next = truth.seed * 1103515245L + 12345L;
        truth = truth.withSeed((int) next);
        return (int) ((next & 0xFFFF0000L) / 0x10000L % below);
    }

    private long days(int n) {
        demand(in(n, 1, 60), 6);
        for (int day = 0; day < n; day++) {
            int taken = 0;
            for (Thing thing : truth.things) {
                int quarter = thing.first + draw(thing.cases());
                if (quarter <= thing.last && thing.isMet(thing.away)) taken += thing.worth;
            }
            int paid = 0;
            for (Man man : truth.men) {
                paid += man.cost(man.holds(truth.hope), truth.hope);
            }
            truth = truth.aDayOn(taken, paid);
        }
        return truth.takings;
    }

    private long seed(int v) {
        int before = truth.seed;
        truth = truth.withSeed(v);
        return before;
    }

    // ---- moves, the image, status ----

    private long act(int w, int move, int x) {
        trace = List.of();
        if (!in(w, 0, men() - 1) || !in(move, 0, 2)) return 0;
        int answer = Men.moves(truth.men.get(w).kind, w, truth.men.get(w).a, move, x);
        trace = List.copyOf(Men.RAN);
        return answer;
    }

    private long image() {
        image = truth;
        return men();
    }

    private long restore() {
        demand(image != null, 6);
        truth = image;
        for (int s = 0; s < 8; s++) {
            if (shelves[s] instanceof Integer && (Integer) shelves[s] >= men()) shelves[s] = null;
        }
        return men();
    }

    private long status(int what) {
        if (in(what, 11, 17)) return refusals[what - 10];
        int[] all = {men(), things(), truth.hope, truth.days, truth.takings, truth.wages, truth.seed, trace.size()};
        return in(what, 0, 7) ? all[what] : NONE;
    }
}
