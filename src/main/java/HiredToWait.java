/** A guild of men who are hired to wait; the document ../shared/DOC.md says what each call promises. */
public final class HiredToWait {
    public static final int NONE = -1;

    private static final int FREE = 0;
    private static final int NOBODY = -1;
    private static final int OTHER = -2;
    private static final int NOTHING = -3;
    private static final int BELOW = -4;
    private static final int BEYOND = -5;
    private static final int WRONG = -6;
    private static final int ROOM = -7;
    /** Calls for which NONE is an answer of its own tell their refusals so much lower. */
    private static final int APART = 10;

    private static final int SHELVES = 8;
    private static final int ELEMENTS = 160;
    private static final int ROW = 100;
    private static final int BYTES = 0;
    private static final int SHORTS = 1;
    private static final int INTS = 2;
    private static final int LONGS = 3;

    private static final int THINGS = 8;
    private static final int WAITERS = 6;
    private static final int LAST_CORNER = 9;
    private static final int LAST_QUARTER = 23;
    private static final int QUARTERS = 24;
    private static final int MOST_NEVER = 9;
    private static final int MOST_WORTH = 99;
    private static final int MOST_STAYS = 9;
    private static final int MOST_AWAY = 20;
    private static final int MOST_A = 9;
    private static final int MOST_PAY = 9;
    private static final int MOST_PATIENCE = 24;
    private static final int MOST_HOPE = 9;
    private static final int MOST_RUNNERS = 8;
    private static final int MOST_LEFT = 40;
    private static final int MOST_DAYS = 60;
    private static final int PER_THING = 100;
    private static final int NEVER_CAME = 99;

    private static final int KINDS = 7;
    private static final int WAITER = 0;
    private static final int MASTER = 1;
    private static final int LOVER = 2;
    private static final int ENDLESS = 3;
    private static final int APPRENTICE = 4;
    private static final int RELIEVER = 5;
    private static final int HOPER = 6;
    private static final int[] ABOVE = {NONE, WAITER, WAITER, MASTER, WAITER, LOVER, APPRENTICE};

    private static final int WAITS = 0;
    private static final int LOOKS = 1;
    private static final int SENDS = 2;

    private final Shelf[] shelves = new Shelf[SHELVES];
    private final Guild guild = new Guild();
    private final Guild kept = new Guild();
    private final GuildText text = new GuildText();
    private final Rota plan = new Rota();
    private final Bodies bodies = new Bodies();
    private final int[] refusals = new int[-ROOM + 1];
    private boolean imageTaken = false;
    private int latestFault = NONE;

    public HiredToWait() {
        for (int s = 0; s < SHELVES; s++) {
            shelves[s] = new Shelf();
        }
    }

    // ---- shelves ----

    public int row(int s, int sort, int n) {
        if (!isShelf(s)) return refuse(NOBODY);
        if (n < 0) return refuse(BELOW);
        if (!within(sort, BYTES, LONGS)) return refuse(WRONG);
        if (n > ELEMENTS) return refuse(ROOM);
        shelves[s].layRow(sort, n);
        return 1;
    }

    public int set(int s, int i, long v) {
        int refusal = rowRefusal(s);
        if (refusal != FREE) return refuse(refusal);
        if (!shelves[s].hasElement(i)) return refuse(BEYOND);
        shelves[s].put(i, v);
        return 1;
    }

    public int copy(int p, int q, int i, int j, int n) {
        int refusal = twoRowsRefusal(p, q);
        if (refusal != FREE) return refuse(refusal);
        if (n < 0) return refuse(BELOW);
        if (!shelves[p].hasPart(i, n) || !shelves[q].hasPart(j, n)) return refuse(BEYOND);
        System.arraycopy(shelves[p].elements, i, shelves[q].elements, j, n);
        return 1;
    }

    public long element(int s, int i) {
        return isShelf(s) ? shelves[s].at(i) : 0;
    }

    public int show(int s, int waiter) {
        if (!isShelf(s)) return refuse(NOBODY);
        if (waiter != NONE && !guild.hasWaiter(waiter)) return refuse(NOBODY);
        shelves[s].hold(waiter);
        return waiter == NONE ? 0 : 1;
    }

    public int holds(int s) {
        return isShelf(s) ? shelves[s].holding : NONE;
    }

    public int says(int s, int kind) {
        if (!isShelf(s) || !isKind(kind)) return refuse(NOBODY);
        if (shelves[s].isRow()) return refuse(OTHER);
        int waiter = shelves[s].holding;
        if (!guild.hasWaiter(waiter)) return refuse(NOTHING);
        Waiter who = guild.waiters[waiter];
        if (!isUnder(who.kind, kind)) return refuse(OTHER);
        return who.wordAs(kind);
    }

    // ---- the guild ----

    public int thing(int corner, int first, int last, int never, int worth, int stays, int away) {
        boolean comes = within(first, 0, LAST_QUARTER) && within(last, first, LAST_QUARTER)
            && within(never, 0, MOST_NEVER);
        boolean isOwned = within(worth, 0, MOST_WORTH) && within(stays, 0, MOST_STAYS)
            && within(away, 0, MOST_AWAY);
        if (!comes || !isOwned || !isCorner(corner)) return refuse(WRONG);
        if (!guild.hasRoomForThing()) return refuse(ROOM);
        return guild.addThing(corner, first, last, never, worth, stays, away);
    }

    public int waiter(int kind, int a, int pay, int patience, int at) {
        if (!isKind(kind)) return refuse(NOBODY);
        boolean may = within(a, 0, MOST_A) && within(pay, 1, MOST_PAY)
            && within(patience, 1, MOST_PATIENCE) && isCorner(at);
        if (!may) return refuse(WRONG);
        if (!guild.hasRoomForWaiter()) return refuse(ROOM);
        return guild.addWaiter(kind, a, pay, patience, at);
    }

    public int move(int waiter, int corner) {
        if (!guild.hasWaiter(waiter)) return refuse(NOBODY);
        if (!isCorner(corner)) return refuse(WRONG);
        int before = guild.waiters[waiter].at;
        guild.waiters[waiter].at = corner;
        return before;
    }

    public int ask(int v) {
        if (!within(v, 0, MOST_HOPE)) return refuse(WRONG);
        int before = guild.hope;
        guild.hope = v;
        return before;
    }

    public int thingOf(int thing, int what) {
        if (!guild.hasThing(thing) || !within(what, 0, 7)) return refuse(BEYOND);
        return guild.things[thing].tell(what);
    }

    public int waiterOf(int waiter, int what) {
        if (!guild.hasWaiter(waiter) || !within(what, 0, 6)) return refuse(BEYOND);
        return guild.waiters[waiter].tell(what, guild.hope);
    }

    public int cost(int waiter, int n) {
        if (!guild.hasWaiter(waiter)) return refuse(NOBODY);
        if (!within(n, 0, QUARTERS)) return refuse(WRONG);
        return guild.waiters[waiter].wageFor(n, guild.hope);
    }

    public int guild(int s) {
        int refusal = rowRefusal(s);
        if (refusal != FREE) return refuse(refusal);
        latestFault = text.readFault(shelves[s], guild);
        if (latestFault != NONE) return refuse(WRONG);
        guild.become(text.draft);
        return text.items;
    }

    public int fault() {
        return latestFault;
    }

    // ---- waiting, and what comes of it ----

    public int by(int thing, int quarter) {
        if (!guild.hasThing(thing)) return refuse(NOBODY);
        if (!isQuarter(quarter)) return refuse(WRONG);
        return guild.things[thing].casesBy(quarter);
    }

    public int stop(int thing, int waiter, int what) {
        if (!guild.hasThing(thing) || !guild.hasWaiter(waiter)) return refuseApart(NOBODY);
        if (!within(what, 0, 1)) return refuseApart(BEYOND);
        Thing thatComes = guild.things[thing];
        Waiter who = guild.waiters[waiter];
        return what == 0 ? guild.stopQuarter(thatComes, who) : guild.bestGain(thatComes, who);
    }

    public int best(int thing) {
        if (!guild.hasThing(thing)) return refuseApart(NOBODY);
        return guild.bestWaiter(guild.things[thing]);
    }

    public int lookouts(int waiter) {
        if (!guild.hasWaiter(waiter)) return refuse(NOBODY);
        return guild.cornersWithSight(guild.waiters[waiter]);
    }

    public int rota(int thing, int i) {
        if (!guild.hasThing(thing)) return refuseApart(NOBODY);
        if (i != NONE && !guild.hasWaiter(i)) return refuseApart(BEYOND);
        plan.layOut(guild, guild.things[thing].quarters());
        return i == NONE ? plan.leastCost() : plan.shareOf(guild, i);
    }

    public int posts(int what) {
        if (!within(what, 0, 1)) return refuseApart(BEYOND);
        int chosen = guild.fewestPosts();
        return what == 0 && chosen != NONE ? Integer.bitCount(chosen) : chosen;
    }

    public int seen(int waiter, int what) {
        if (!guild.hasWaiter(waiter)) return refuse(NOBODY);
        if (!within(what, 0, 1)) return refuse(BEYOND);
        Waiter who = guild.waiters[waiter];
        return what == 0 ? guild.thingsSeen(who, who.at) : guild.bestStand(who);
    }

    public int met(int thing, int what) {
        if (!guild.hasThing(thing)) return refuse(NOBODY);
        if (!within(what, 0, 1)) return refuse(BEYOND);
        return guild.things[thing].isMet(what == 1) ? 1 : 0;
    }

    public int runners(int k, int what) {
        if (!within(what, 0, 1)) return refuse(BEYOND);
        if (!within(k, 0, MOST_RUNNERS)) return refuse(WRONG);
        int chosen = guild.thingsToRunFor(k);
        return what == 0 ? guild.worthMet(chosen) : chosen;
    }

    public int left(int s, int n) {
        int refusal = toldRefusal(s, n, MOST_LEFT, true);
        if (refusal != FREE) return refuse(refusal);
        Shelf told = shelves[s];
        int may = (1 << guild.thingCount) - 1;
        for (int i = 0; i < n; i++) {
            int quarter = told.number(i);
            if (!isQuarter(quarter)) return refuse(WRONG);
            may &= guild.thingsIn(quarter);
        }
        return may;
    }

    public int await(int quarter) {
        if (quarter == NONE) return guild.fullestQuarter();
        if (!isQuarter(quarter)) return refuse(WRONG);
        return Integer.bitCount(guild.thingsIn(quarter));
    }

    // ---- days ----

    public int judge(int s, int n) {
        int refusal = toldRefusal(s, n, THINGS, true);
        if (refusal != FREE) return refuseApart(refusal);
        return firstWrong(shelves[s], n);
    }

    public int behind(int s, int n, int what) {
        int refusal = dayRefusal(s, n, within(what, 0, 2));
        if (refusal != FREE) return refuse(refusal);
        int metCount = 0;
        int metWorth = 0;
        int never = 0;
        for (int i = 0; i < n; i++) {
            int told = shelves[s].number(i);
            if (told % PER_THING == NEVER_CAME) {
                never++;
            } else if (guild.isMetAsTold(told)) {
                metCount++;
                metWorth += guild.worthAsTold(told);
            }
        }
        return what == 0 ? metCount : what == 1 ? metWorth : never;
    }

    public int done(int s, int n) {
        int refusal = dayRefusal(s, n, true);
        if (refusal != FREE) return refuse(refusal);
        for (int i = 0; i < n; i++) {
            int told = shelves[s].number(i);
            if (guild.isMetAsTold(told)) guild.takings += guild.worthAsTold(told);
        }
        guild.daysPassed++;
        return guild.takings;
    }

    public int days(int n) {
        if (!within(n, 1, MOST_DAYS)) return refuse(WRONG);
        for (int day = 0; day < n; day++) {
            guild.passDay();
        }
        return guild.takings;
    }

    public int seed(int v) {
        int before = guild.seed;
        guild.seed = v;
        return before;
    }

    // ---- moves ----

    public int act(int waiter, int move, int x) {
        bodies.forget();
        if (!guild.hasWaiter(waiter) || !within(move, WAITS, SENDS)) return 0;
        return bodies.start(guild.waiters[waiter], move, x);
    }

    public int trace(int i) {
        return bodies.tell(i);
    }

    // ---- the image, and what is told of all ----

    public int image() {
        kept.become(guild);
        imageTaken = true;
        return guild.waiterCount;
    }

    public int restore() {
        if (!imageTaken) return refuse(WRONG);
        guild.become(kept);
        for (int s = 0; s < SHELVES; s++) {
            Shelf shelf = shelves[s];
            if (!shelf.isRow() && !guild.hasWaiter(shelf.holding)) shelf.hold(NONE);
        }
        return guild.waiterCount;
    }

    public int status(int what) {
        if (within(what, 11, 17)) return refusals[what - 10];
        switch (what) {
            case 0: return guild.waiterCount;
            case 1: return guild.thingCount;
            case 2: return guild.hope;
            case 3: return guild.daysPassed;
            case 4: return guild.takings;
            case 5: return guild.wages;
            case 6: return guild.seed;
            case 7: return bodies.ran;
            default: return NONE;
        }
    }

    // ---- refusals ----

    private int refuse(int refusal) {
        int which = -refusal;
        if (within(which, 1, -ROOM)) refusals[which]++;
        return refusal;
    }

    private int refuseApart(int refusal) {
        return refuse(refusal) - APART;
    }

    private int rowRefusal(int s) {
        if (!isShelf(s)) return NOBODY;
        if (shelves[s].isRow()) return FREE;
        return shelves[s].holding == NONE ? NOTHING : OTHER;
    }

    private int twoRowsRefusal(int p, int q) {
        int ofP = rowRefusal(p);
        int ofQ = rowRefusal(q);
        if (ofP == FREE && ofQ == FREE) {
            return shelves[p].holding == shelves[q].holding ? FREE : OTHER;
        }
        if (ofP == NOBODY || ofQ == NOBODY) return NOBODY;
        return ofP == OTHER || ofQ == OTHER ? OTHER : NOTHING;
    }

    /** Why the first n elements of a row can't be looked at, or nothing such be told of them. */
    private int toldRefusal(int s, int n, int most, boolean tellable) {
        int refusal = rowRefusal(s);
        if (refusal != FREE) return refusal;
        if (n < 0) return BELOW;
        if (n > shelves[s].size || !tellable) return BEYOND;
        return n > most ? WRONG : FREE;
    }

    private int dayRefusal(int s, int n, boolean tellable) {
        int refusal = toldRefusal(s, n, THINGS, tellable);
        if (refusal != FREE) return refusal;
        return firstWrong(shelves[s], n) == NONE ? FREE : WRONG;
    }

    private int firstWrong(Shelf day, int n) {
        int toldOf = 0;
        for (int i = 0; i < n; i++) {
            int told = day.number(i);
            if (!guild.mayBeTold(told)) return i;
            int bit = 1 << told / PER_THING;
            if ((toldOf & bit) != 0) return i;
            toldOf |= bit;
        }
        return NONE;
    }

    private static boolean within(int v, int least, int most) {
        return v >= least && v <= most;
    }

    private static boolean isShelf(int s) {
        return within(s, 0, SHELVES - 1);
    }

    private static boolean isKind(int kind) {
        return within(kind, 0, KINDS - 1);
    }

    private static boolean isCorner(int corner) {
        return within(corner, 0, LAST_CORNER);
    }

    private static boolean isQuarter(int quarter) {
        return within(quarter, 0, LAST_QUARTER);
    }

    private static boolean isUnder(int kind, int wanted) {
        int k = kind;
        for (int level = 0; level < KINDS && isKind(k); level++) {
            if (k == wanted) return true;
            k = ABOVE[k];
        }
        return false;
    }

    /** Holds nothing, a waiter or a row, told as holds() tells it. */
    private static final class Shelf {
        // longs have room for every sort, so no row is ever made anew
        final long[] elements = new long[ELEMENTS];
        int holding = NONE;
        int size = 0;

        boolean isRow() {
            return holding >= ROW;
        }

        void layRow(int sort, int n) {
            holding = ROW + sort;
            size = n;
            for (int i = 0; i < ELEMENTS; i++) {
                elements[i] = 0;
            }
        }

        void hold(int waiterOrNone) {
            holding = waiterOrNone;
            size = 0;
        }

        boolean hasElement(int i) {
            return i >= 0 && i < size && i < ELEMENTS;
        }

        boolean hasPart(int i, int n) {
            return i >= 0 && i <= size && n >= 0 && n <= size - i;
        }

        void put(int i, long v) {
            if (hasElement(i)) elements[i] = lowestBits(v);
        }

        private long lowestBits(long v) {
            switch (holding - ROW) {
                case BYTES: return (byte) v;
                case SHORTS: return (short) v;
                case INTS: return (int) v;
                default: return v;
            }
        }

        long at(int i) {
            return hasElement(i) ? elements[i] : 0;
        }

        int number(int i) {
            return (int) at(i);
        }
    }

    /** A thing that comes in some quarter or never, and how its owner meets it. */
    private static final class Thing {
        int corner;
        int first;
        int last;
        int never;
        int worth;
        int stays;
        int away;

        void become(Thing other) {
            corner = other.corner;
            first = other.first;
            last = other.last;
            never = other.never;
            worth = other.worth;
            stays = other.stays;
            away = other.away;
        }

        int quarters() {
            return last - first + 1;
        }

        int cases() {
            return quarters() + never;
        }

        int casesBy(int quarter) {
            return Math.max(0, Math.min(quarter, last) - first + 1);
        }

        boolean canComeIn(int quarter) {
            return within(quarter, first, last);
        }

        boolean mayHave(int quarterOrNever) {
            return canComeIn(quarterOrNever) || quarterOrNever == NEVER_CAME && never > 0;
        }

        boolean isMet(boolean withRunner) {
            return (withRunner ? away / 2 : away) <= stays;
        }

        boolean needsRunner() {
            return !isMet(false) && isMet(true);
        }

        int tell(int what) {
            switch (what) {
                case 0: return corner;
                case 1: return first;
                case 2: return last;
                case 3: return never;
                case 4: return worth;
                case 5: return stays;
                case 6: return away;
                default: return cases();
            }
        }
    }

    /** One who waits, of a kind. */
    private static final class Waiter {
        final int number;
        int kind;
        int a;
        int pay;
        int patience;
        int at;

        Waiter(int number) {
            this.number = number;
        }

        void become(Waiter other) {
            kind = other.kind;
            a = other.a;
            pay = other.pay;
            patience = other.patience;
            at = other.at;
        }

        int quartersHeld(int hope) {
            return Math.min(QUARTERS, wouldHold(hope));
        }

        private int wouldHold(int hope) {
            switch (kind) {
                case MASTER: return 2 * patience;
                case ENDLESS: return QUARTERS;
                case LOVER: return patience + a;
                case RELIEVER: return Math.max(1, patience + a - 1);
                case APPRENTICE: return (patience + 1) / 2;
                case HOPER: return (patience + 1) / 2 + hope;
                default: return patience;
            }
        }

        int wageFor(int n, int hope) {
            switch (kind) {
                case MASTER: return masterWage(n);
                case ENDLESS: return masterWage(Math.min(n, patience));
                case LOVER: return loverWage(n);
                case RELIEVER: return n == 0 ? 0 : loverWage(n) + 1;
                case APPRENTICE: return pay * Math.max(0, n - a);
                case HOPER: return pay * Math.max(0, n - a) + hope * n;
                default: return pay * n;
            }
        }

        private int masterWage(int n) {
            return n == 0 ? 0 : pay * n + a;
        }

        private int loverWage(int n) {
            return (pay * n + 1) / 2;
        }

        int sight() {
            switch (kind) {
                case MASTER: return 1;
                case HOPER: return 1;
                case ENDLESS: return 2;
                default: return 0;
            }
        }

        int wordAs(int takenFor) {
            switch (takenFor) {
                case MASTER: return patience;
                case ENDLESS: return patience;
                case LOVER: return a;
                case RELIEVER: return a;
                case APPRENTICE: return pay;
                case HOPER: return pay;
                default: return at;
            }
        }

        int tell(int what, int hope) {
            switch (what) {
                case 0: return kind;
                case 1: return a;
                case 2: return pay;
                case 3: return patience;
                case 4: return at;
                case 5: return quartersHeld(hope);
                default: return sight();
            }
        }
    }

    /** All that an image keeps, and what can be reckoned from it. */
    private static final class Guild {
        final Thing[] things = new Thing[THINGS];
        final Waiter[] waiters = new Waiter[WAITERS];
        private final int[] seenFromPost = new int[WAITERS];
        int thingCount = 0;
        int waiterCount = 0;
        int hope = 1;
        int daysPassed = 0;
        int takings = 0;
        int wages = 0;
        int seed = 1;

        Guild() {
            for (int t = 0; t < THINGS; t++) {
                things[t] = new Thing();
            }
            for (int w = 0; w < WAITERS; w++) {
                waiters[w] = new Waiter(w);
            }
        }

        void become(Guild other) {
            for (int t = 0; t < THINGS; t++) {
                things[t].become(other.things[t]);
            }
            for (int w = 0; w < WAITERS; w++) {
                waiters[w].become(other.waiters[w]);
            }
            thingCount = other.thingCount;
            waiterCount = other.waiterCount;
            hope = other.hope;
            daysPassed = other.daysPassed;
            takings = other.takings;
            wages = other.wages;
            seed = other.seed;
        }

        boolean hasThing(int t) {
            return t >= 0 && t < thingCount && t < THINGS;
        }

        boolean hasWaiter(int w) {
            return w >= 0 && w < waiterCount && w < WAITERS;
        }

        boolean hasRoomForThing() {
            return thingCount < THINGS;
        }

        boolean hasRoomForWaiter() {
            return waiterCount < WAITERS;
        }

        int addThing(int corner, int first, int last, int never, int worth, int stays, int away) {
            if (!hasRoomForThing()) return NONE;
            Thing added = things[thingCount];
            added.corner = corner;
            added.first = first;
            added.last = last;
            added.never = never;
            added.worth = worth;
            added.stays = stays;
            added.away = away;
            return thingCount++;
        }

        int addWaiter(int kind, int a, int pay, int patience, int at) {
            if (!hasRoomForWaiter()) return NONE;
            Waiter added = waiters[waiterCount];
            added.kind = kind;
            added.a = a;
            added.pay = pay;
            added.patience = patience;
            added.at = at;
            return waiterCount++;
        }

        int gainBy(Thing thing, Waiter who, int quarter) {
            int waited = 0;
            int paid = 0;
            for (int q = thing.first; q <= quarter; q++) {
                waited++;
                paid += who.wageFor(waited, hope);
            }
            int came = thing.casesBy(quarter);
            int inVain = thing.cases() - came;
            return thing.worth * came - paid - inVain * who.wageFor(waited, hope);
        }

        int stopQuarter(Thing thing, Waiter who) {
            int end = Math.min(thing.last, thing.first + who.quartersHeld(hope) - 1);
            int stop = NONE;
            int most = 0;
            for (int q = thing.first; q <= end; q++) {
                int gain = gainBy(thing, who, q);
                if (gain > most) {
                    most = gain;
                    stop = q;
                }
            }
            return stop;
        }

        int bestGain(Thing thing, Waiter who) {
            int stop = stopQuarter(thing, who);
            return stop == NONE ? 0 : gainBy(thing, who, stop);
        }

        int bestWaiter(Thing thing) {
            int chosen = NONE;
            int most = 0;
            for (int w = 0; w < waiterCount; w++) {
                int gain = bestGain(thing, waiters[w]);
                if (gain > most) {
                    most = gain;
                    chosen = w;
                }
            }
            return chosen;
        }

        int thingsSeen(Waiter who, int corner) {
            int bits = 0;
            for (int t = 0; t < thingCount; t++) {
                if (Math.abs(things[t].corner - corner) <= who.sight()) bits |= 1 << t;
            }
            return bits;
        }

        int cornersWithSight(Waiter who) {
            int bits = 0;
            for (int corner = 0; corner <= LAST_CORNER; corner++) {
                if (thingsSeen(who, corner) != 0) bits |= 1 << corner;
            }
            return bits;
        }

        int bestStand(Waiter who) {
            int stand = 0;
            int most = 0;
            for (int corner = 0; corner <= LAST_CORNER; corner++) {
                int worth = worthOf(thingsSeen(who, corner));
                if (worth > most) {
                    most = worth;
                    stand = corner;
                }
            }
            return stand;
        }

        private int worthOf(int bits) {
            int worth = 0;
            for (int t = 0; t < thingCount; t++) {
                if ((bits >> t & 1) != 0) worth += things[t].worth;
            }
            return worth;
        }

        int fewestPosts() {
            for (int w = 0; w < waiterCount; w++) {
                seenFromPost[w] = thingsSeen(waiters[w], waiters[w].at);
            }
            int all = (1 << thingCount) - 1;
            int chosen = NONE;
            int fewest = WAITERS + 1;
            for (int posted = 0; posted < 1 << waiterCount; posted++) {
                int count = Integer.bitCount(posted);
                if (count < fewest && seenFromPosts(posted) == all) {
                    fewest = count;
                    chosen = posted;
                }
            }
            return chosen;
        }

        private int seenFromPosts(int posted) {
            int bits = 0;
            for (int w = 0; w < waiterCount; w++) {
                if ((posted >> w & 1) != 0) bits |= seenFromPost[w];
            }
            return bits;
        }

        int worthMet(int withRunner) {
            int worth = 0;
            for (int t = 0; t < thingCount; t++) {
                if (things[t].isMet((withRunner >> t & 1) != 0)) worth += things[t].worth;
            }
            return worth;
        }

        /** The worthiest each time; of equal ones the first, which keeps the bits least. */
        int thingsToRunFor(int runners) {
            int chosen = 0;
            for (int k = 0; k < runners; k++) {
                int next = worthiestInNeed(chosen);
                if (next != NONE) chosen |= 1 << next;
            }
            return chosen;
        }

        private int worthiestInNeed(int besides) {
            int chosen = NONE;
            int most = 0;
            for (int t = 0; t < thingCount; t++) {
                boolean isOpen = (besides >> t & 1) == 0 && things[t].needsRunner();
                if (isOpen && things[t].worth > most) {
                    most = things[t].worth;
                    chosen = t;
                }
            }
            return chosen;
        }

        int thingsIn(int quarter) {
            int bits = 0;
            for (int t = 0; t < thingCount; t++) {
                if (things[t].canComeIn(quarter)) bits |= 1 << t;
            }
            return bits;
        }

        int fullestQuarter() {
            int fullest = 0;
            int most = 0;
            for (int q = 0; q <= LAST_QUARTER; q++) {
                int count = Integer.bitCount(thingsIn(q));
                if (count > most) {
                    most = count;
                    fullest = q;
                }
            }
            return fullest;
        }

        boolean mayBeTold(int told) {
            if (told < 0) return false;
            int t = told / PER_THING;
            return hasThing(t) && things[t].mayHave(told % PER_THING);
        }

        boolean isMetAsTold(int told) {
            return mayBeTold(told) && told % PER_THING != NEVER_CAME && things[told / PER_THING].isMet(false);
        }

        int worthAsTold(int told) {
            return mayBeTold(told) ? things[told / PER_THING].worth : 0;
        }

        void passDay() {
            for (int t = 0; t < thingCount; t++) {
                Thing thing = things[t];
                int quarter = thing.first + draw(thing.cases());
                if (thing.canComeIn(quarter) && thing.isMet(false)) takings += thing.worth;
            }
            for (int w = 0; w < waiterCount; w++) {
                wages += waiters[w].wageFor(waiters[w].quartersHeld(hope), hope);
            }
            daysPassed++;
        }

        private int draw(int below) {
            seed = seed * 1103515245 + 12345;
            return below > 0 ? (seed >>> 16) % below : 0;
        }
    }

    /** The least pay for which waiters, one behind the other, wait through so many quarters. */
    private static final class Rota {
        private static final int CANT_BE = 1000000;

        /** By waiter and quarters still open: the least pay of him and those behind him. */
        private final int[][] least = new int[WAITERS + 1][QUARTERS + 1];
        private int quarters = 0;

        void layOut(Guild guild, int n) {
            quarters = Math.max(0, Math.min(n, QUARTERS));
            for (int open = 0; open <= QUARTERS; open++) {
                least[guild.waiterCount][open] = open == 0 ? 0 : CANT_BE;
            }
            for (int w = guild.waiterCount - 1; w >= 0; w--) {
                for (int open = 0; open <= quarters; open++) {
                    least[w][open] = payWith(guild, w, open, firstBest(guild, w, open));
                }
            }
        }

        int leastCost() {
            int pay = least[0][quarters];
            return pay < CANT_BE ? pay : NONE;
        }

        int shareOf(Guild guild, int who) {
            if (leastCost() == NONE) return NONE;
            int open = quarters;
            int share = 0;
            for (int w = 0; w <= who && w < guild.waiterCount; w++) {
                share = firstBest(guild, w, open);
                open -= share;
            }
            return share;
        }

        /** The smallest share of a waiter with which the pay is least: so the first row is found. */
        private int firstBest(Guild guild, int w, int open) {
            int most = Math.min(open, guild.waiters[w].quartersHeld(guild.hope));
            int chosen = 0;
            for (int share = 1; share <= most; share++) {
                if (payWith(guild, w, open, share) < payWith(guild, w, open, chosen)) chosen = share;
            }
            return chosen;
        }

        private int payWith(Guild guild, int w, int open, int share) {
            return guild.waiters[w].wageFor(share, guild.hope) + least[w + 1][open - share];
        }
    }

    /** Reads a guild from a row of letters. */
    private static final class GuildText {
        /** Takes the items, so that a text with a fault leaves nothing of them in the guild. */
        final Guild draft = new Guild();
        int items = 0;
        private final int[] letters = new int[ELEMENTS];
        private int size = 0;
        private int place = 0;
        private int fault = NONE;

        /** Puts what the row tells over what there is into the draft; where it can't stand, or NONE. */
        int readFault(Shelf row, Guild there) {
            draft.become(there);
            items = 0;
            place = 0;
            fault = NONE;
            size = row.size;
            for (int i = 0; i < size && i < ELEMENTS; i++) {
                letters[i] = row.number(i);
            }
            readItem();
            // every further item takes elements, so there are fewer of them than elements
            for (int i = 0; i < ELEMENTS && fault == NONE && place < size; i++) {
                readSign(';');
                readItem();
            }
            return fault;
        }

        private void readItem() {
            if (fault != NONE) return;
            items++;
            switch (letter()) {
                case 't': readThing(); break;
                case 'w': readWaiter(); break;
                case 'm': readMoves(); break;
                case 'h': readHope(); break;
                default: failAt(place);
            }
        }

        private void readThing() {
            readWord("thing", draft.hasRoomForThing());
            int corner = readNumber(0, LAST_CORNER);
            int first = readNumber(0, LAST_QUARTER);
            int last = readNumber(first, LAST_QUARTER);
            int never = readNumber(0, MOST_NEVER);
            int worth = readNumber(0, MOST_WORTH);
            int stays = readNumber(0, MOST_STAYS);
            int away = readNumber(0, MOST_AWAY);
            if (fault == NONE) draft.addThing(corner, first, last, never, worth, stays, away);
        }

        private void readWaiter() {
            readWord("waiter", draft.hasRoomForWaiter());
            int kind = readNumber(0, KINDS - 1);
            int a = readNumber(0, MOST_A);
            int pay = readNumber(1, MOST_PAY);
            int patience = readNumber(1, MOST_PATIENCE);
            int at = readNumber(0, LAST_CORNER);
            if (fault == NONE) draft.addWaiter(kind, a, pay, patience, at);
        }

        private void readMoves() {
            readWord("moves", true);
            int waiter = readNumber(0, draft.waiterCount - 1);
            int corner = readNumber(0, LAST_CORNER);
            if (fault == NONE && draft.hasWaiter(waiter)) draft.waiters[waiter].at = corner;
        }

        private void readHope() {
            readWord("hope", true);
            int hope = readNumber(0, MOST_HOPE);
            if (fault == NONE) draft.hope = hope;
        }

        private void readWord(String word, boolean hasRoom) {
            int start = place;
            for (int i = 0; i < word.length(); i++) {
                readSign(word.charAt(i));
            }
            if (fault == NONE && !hasRoom) failAt(start);
        }

        /** The letter that stands next; beyond the end 0, which no text has. */
        private int letter() {
            return place >= 0 && place < size && place < ELEMENTS ? letters[place] : 0;
        }

        private void readSign(int sign) {
            if (fault != NONE) return;
            if (letter() == sign) {
                place++;
            } else {
                failAt(place);
            }
        }

        /** The number behind a blank; NONE if it can't stand, or what is ahead of it can't. */
        private int readNumber(int least, int most) {
            readSign(' ');
            if (fault != NONE) return NONE;
            int start = place;
            if (!isAtDigit()) return failAt(start);
            int number = readDigit();
            if (isAtDigit()) number = number * 10 + readDigit();
            return within(number, least, most) ? number : failAt(start);
        }

        private boolean isAtDigit() {
            return within(letter(), '0', '9');
        }

        private int readDigit() {
            int digit = letter() - '0';
            place++;
            return digit;
        }

        private int failAt(int where) {
            fault = where;
            return NONE;
        }
    }

    /** The bodies of the moves, and the trace of those that ran. */
    private static final class Bodies {
        private static final int MOST_KEPT = 20;
        /** No move of the document opens more than seven bodies in one another. */
        private static final int DEEPEST = 12;
        private static final int NO_BODY = 0;
        /** By move and, within it, by kind. */
        private static final int[] NUMBERS = {
            10, 20, NO_BODY, 40, 51, NO_BODY, 70,
            11, NO_BODY, 30, NO_BODY, NO_BODY, NO_BODY, 71,
            12, NO_BODY, NO_BODY, NO_BODY, 50, 60, NO_BODY};

        private final int[] trace = new int[MOST_KEPT];
        int ran = 0;

        void forget() {
            ran = 0;
        }

        int tell(int i) {
            return i >= 0 && i < ran && i < MOST_KEPT ? trace[i] : NONE;
        }

        int start(Waiter who, int move, int x) {
            return run(who, move, who.kind, x, 0);
        }

        /** Runs the body of a kind, or of the next kind above it that has one. */
        private int run(Waiter who, int move, int kind, int x, int depth) {
            int holder = nextWithBody(move, kind);
            if (holder == NONE || depth > DEEPEST) return 0;
            int body = bodyOf(move, holder);
            begin(body);
            return answerOf(body, who, ABOVE[holder], x, depth + 1);
        }

        private int answerOf(int body, Waiter who, int above, int x, int depth) {
            int m = who.number;
            int k = who.a;
            switch (body) {
                case 10: return x + m;
                case 11: return run(who, WAITS, who.kind, x, depth) * 2;
                case 12: return run(who, LOOKS, who.kind, x, depth) ^ run(who, WAITS, who.kind, x - k, depth);
                case 20: return run(who, WAITS, above, x, depth) + k;
                case 30: return run(who, LOOKS, above, x, depth) * 3;
                case 40: return run(who, WAITS, above, x + 1, depth);
                case 50: return -run(who, SENDS, above, x, depth);
                case 51: return run(who, WAITS, above, x, depth) - m;
                case 60: return run(who, SENDS, above, x, depth) ^ 5;
                case 70: return run(who, WAITS, above, x, depth) * 2;
                default: return run(who, LOOKS, above, x - k, depth);
            }
        }

        private static int nextWithBody(int move, int kind) {
            int holder = kind;
            for (int level = 0; level < KINDS && isKind(holder); level++) {
                if (bodyOf(move, holder) != NO_BODY) return holder;
                holder = ABOVE[holder];
            }
            return NONE;
        }

        private static int bodyOf(int move, int kind) {
            int place = move * KINDS + kind;
            return within(place, 0, NUMBERS.length - 1) ? NUMBERS[place] : NO_BODY;
        }

        private void begin(int body) {
            if (ran >= 0 && ran < MOST_KEPT) trace[ran] = body;
            ran++;
        }
    }
}
