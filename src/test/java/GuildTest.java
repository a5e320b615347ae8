/** Promises 9 to 17: things, waiters, and guilds read from texts. */
public final class GuildTest {
    private static final String THING = "thing 4 2 6 1 50 3 4";

    public static void main(String[] args) {
        thing();
        thingRefused();
        waiter();
        waiterRefused();
        move();
        ask();
        thingOf();
        waiterOf();
        holdsOfKinds();
        cost();
        costOfKinds();
        guildTakesItems();
        guildFromNothing();
        guildRefused();
        faults();
        faultsOfNumbers();
        faultsOfRoom();
        faultStays();
        Due.end();
    }

    private static void thing() {
        HiredToWait x = new HiredToWait();
        Due.is("least thing", x.thing(0, 0, 0, 0, 0, 0, 0), 0);
        Due.is("greatest thing", x.thing(9, 23, 23, 9, 99, 9, 20), 1);
        for (int t = 2; t < 8; t++) {
            Due.is("thing", x.thing(t, t, t + 1, t, t, t, t), t);
        }
        Due.is("WRONG ahead of ROOM", x.thing(-1, 0, 0, 0, 0, 0, 0), -6);
        Due.is("no room", x.thing(0, 0, 0, 0, 0, 0, 0), -7);
        Due.is("eight", x.status(1), 8);
        Due.refused(x, 0, 0, 0, 0, 0, 1, 1);
    }

    private static void thingRefused() {
        HiredToWait x = new HiredToWait();
        int[] good = {4, 5, 6, 7, 8, 9, 10};
        int[] below = {-1, -1, 4, -1, -1, -1, -1};
        int[] above = {10, 24, 24, 10, 100, 10, 21};
        for (int i = 0; i < 7; i++) {
            Due.is("thing below in " + i, told(x, good, i, below[i]), -6);
            Due.is("thing above in " + i, told(x, good, i, above[i]), -6);
            Due.is("thing far below in " + i, told(x, good, i, Integer.MIN_VALUE), -6);
        }
        Due.is("first behind last", told(x, good, 1, 7), -6);
        Due.is("none of them", x.status(1), 0);
        Due.refused(x, 0, 0, 0, 0, 0, 22, 0);
    }

    private static int told(HiredToWait x, int[] good, int i, int v) {
        int[] n = good.clone();
        n[i] = v;
        return x.thing(n[0], n[1], n[2], n[3], n[4], n[5], n[6]);
    }

    private static void waiter() {
        HiredToWait x = new HiredToWait();
        Due.is("least waiter", x.waiter(0, 0, 1, 1, 0), 0);
        Due.is("greatest waiter", x.waiter(6, 9, 9, 24, 9), 1);
        for (int w = 2; w < 6; w++) {
            Due.is("waiter", x.waiter(w, 1, 1, 1, 1), w);
        }
        Due.is("KIND ahead of WRONG", x.waiter(7, 10, 0, 0, 10), -1);
        Due.is("WRONG ahead of ROOM", x.waiter(0, 10, 1, 1, 1), -6);
        Due.is("no room", x.waiter(0, 1, 1, 1, 1), -7);
        Due.is("six", x.status(0), 6);
        Due.refused(x, 1, 0, 0, 0, 0, 1, 1);
    }

    private static void waiterRefused() {
        HiredToWait x = new HiredToWait();
        Due.is("kind below", x.waiter(-1, 0, 1, 1, 0), -1);
        Due.is("a below", x.waiter(0, -1, 1, 1, 0), -6);
        Due.is("a above", x.waiter(0, 10, 1, 1, 0), -6);
        Due.is("pay below", x.waiter(0, 0, 0, 1, 0), -6);
        Due.is("pay above", x.waiter(0, 0, 10, 1, 0), -6);
        Due.is("patience below", x.waiter(0, 0, 1, 0, 0), -6);
        Due.is("patience above", x.waiter(0, 0, 1, 25, 0), -6);
        Due.is("at below", x.waiter(0, 0, 1, 1, -1), -6);
        Due.is("at above", x.waiter(0, 0, 1, 1, 10), -6);
        Due.is("none of them", x.status(0), 0);
    }

    private static void move() {
        HiredToWait x = new HiredToWait();
        x.waiter(0, 0, 1, 1, 3);
        Due.is("move", x.move(0, 9), 3);
        Due.is("move again", x.move(0, 0), 9);
        Due.is("where he is", x.waiterOf(0, 4), 0);
        Due.is("move nobody", x.move(1, 10), -1);
        Due.is("move nobody below", x.move(-1, 0), -1);
        Due.is("move beyond", x.move(0, 10), -6);
        Due.is("move below", x.move(0, -1), -6);
        Due.is("where he stays", x.waiterOf(0, 4), 0);
        Due.refused(x, 2, 0, 0, 0, 0, 2, 0);
    }

    private static void ask() {
        HiredToWait x = new HiredToWait();
        Due.is("ask", x.ask(9), 1);
        Due.is("ask again", x.ask(0), 9);
        Due.is("hope", x.status(2), 0);
        Due.is("ask below", x.ask(-1), -6);
        Due.is("ask above", x.ask(10), -6);
        Due.is("hope stays", x.status(2), 0);
        Due.refused(x, 0, 0, 0, 0, 0, 2, 0);
    }

    private static void thingOf() {
        HiredToWait x = new HiredToWait();
        x.thing(4, 5, 8, 7, 60, 9, 10);
        int[] due = {4, 5, 8, 7, 60, 9, 10, 11};
        for (int what = 0; what < due.length; what++) {
            Due.is("thingOf(0, " + what + ")", x.thingOf(0, what), due[what]);
        }
        Due.is("thingOf another what", x.thingOf(0, 8), -5);
        Due.is("thingOf what below", x.thingOf(0, -1), -5);
        Due.is("thingOf none", x.thingOf(1, 0), -5);
        Due.is("thingOf below", x.thingOf(-1, 0), -5);
        Due.refused(x, 0, 0, 0, 0, 4, 0, 0);
    }

    private static void waiterOf() {
        HiredToWait x = new HiredToWait();
        int[] sees = {0, 1, 0, 2, 0, 0};
        for (int kind = 0; kind < 6; kind++) {
            x.waiter(kind, 2, 3, 4, 5);
            int[] due = {kind, 2, 3, 4, 5};
            for (int what = 0; what < due.length; what++) {
                Due.is("waiterOf(" + kind + ", " + what + ")", x.waiterOf(kind, what), due[what]);
            }
            Due.is("kind " + kind + " sees", x.waiterOf(kind, 6), sees[kind]);
        }
        HiredToWait y = new HiredToWait();
        y.waiter(6, 2, 3, 4, 5);
        Due.is("a hoper sees", y.waiterOf(0, 6), 1);
        Due.is("waiterOf another what", x.waiterOf(0, 7), -5);
        Due.is("waiterOf what below", x.waiterOf(0, -1), -5);
        Due.is("waiterOf none", x.waiterOf(6, 0), -5);
        Due.is("waiterOf below", x.waiterOf(-1, 0), -5);
        Due.refused(x, 0, 0, 0, 0, 4, 0, 0);
    }

    private static int held(int kind, int a, int patience, int hope) {
        HiredToWait x = new HiredToWait();
        x.ask(hope);
        x.waiter(kind, a, 1, patience, 0);
        return x.waiterOf(0, 5);
    }

    private static void holdsOfKinds() {
        Due.is("a waiter holds", held(0, 9, 24, 9), 24);
        Due.is("a master holds", held(1, 9, 11, 9), 22);
        Due.is("a master holds 24 at most", held(1, 0, 13, 0), 24);
        Due.is("an endless one holds", held(3, 0, 1, 0), 24);
        Due.is("a lover holds", held(2, 3, 20, 0), 23);
        Due.is("a lover holds 24 at most", held(2, 9, 20, 0), 24);
        Due.is("a reliever holds", held(5, 3, 20, 0), 22);
        Due.is("a reliever holds 1 at least", held(5, 0, 1, 0), 1);
        Due.is("a reliever's most is cut at last", held(5, 1, 24, 0), 24);
        Due.is("an apprentice holds half, upward", held(4, 9, 7, 9), 4);
        Due.is("an apprentice holds half", held(4, 9, 8, 9), 4);
        Due.is("a hoper holds", held(6, 9, 7, 5), 9);
        Due.is("a hoper without hope", held(6, 9, 1, 0), 1);
    }

    private static int costOf(int kind, int a, int patience, int n) {
        HiredToWait x = new HiredToWait();
        x.ask(2);
        x.waiter(kind, a, 3, patience, 0);
        return x.cost(0, n);
    }

    private static void costOfKinds() {
        Due.is("a waiter's 5", costOf(0, 4, 6, 5), 15);
        Due.is("a master's 0", costOf(1, 4, 6, 0), 0);
        Due.is("a master's 5", costOf(1, 4, 6, 5), 19);
        Due.is("an endless one's 0", costOf(3, 4, 6, 0), 0);
        Due.is("an endless one's 5", costOf(3, 4, 6, 5), 19);
        Due.is("an endless one's 7", costOf(3, 4, 6, 7), 22);
        Due.is("a lover's 0", costOf(2, 4, 6, 0), 0);
        Due.is("a lover's 4", costOf(2, 4, 6, 4), 6);
        Due.is("a lover's 5, upward", costOf(2, 4, 6, 5), 8);
        Due.is("a reliever's 0", costOf(5, 4, 6, 0), 0);
        Due.is("a reliever's 5", costOf(5, 4, 6, 5), 9);
        Due.is("an apprentice's 4", costOf(4, 4, 6, 4), 0);
        Due.is("an apprentice's 5", costOf(4, 4, 6, 5), 3);
        Due.is("a hoper's 3", costOf(6, 4, 6, 3), 6);
        Due.is("a hoper's 5", costOf(6, 4, 6, 5), 13);
    }

    private static void cost() {
        HiredToWait x = new HiredToWait();
        x.waiter(0, 0, 9, 1, 0);
        Due.is("cost 24", x.cost(0, 24), 216);
        Due.is("cost of nobody", x.cost(1, 25), -1);
        Due.is("cost of nobody below", x.cost(-1, 0), -1);
        Due.is("cost 25", x.cost(0, 25), -6);
        Due.is("cost -1", x.cost(0, -1), -6);
        Due.refused(x, 2, 0, 0, 0, 0, 2, 0);
    }

    private static void guildTakesItems() {
        HiredToWait x = new HiredToWait();
        x.thing(1, 1, 1, 1, 1, 1, 1);
        x.waiter(0, 0, 1, 1, 8);
        Due.text(x, 0, THING + ";waiter 3 1 2 05 4;moves 1 7;moves 0 2;hope 7;hope 00");
        Due.is("six items", x.guild(0), 6);
        Due.is("no fault", x.fault(), -1);
        int[] thing = {4, 2, 6, 1, 50, 3, 4};
        for (int what = 0; what < thing.length; what++) {
            Due.is("told thing", x.thingOf(1, what), thing[what]);
        }
        int[] waiter = {3, 1, 2, 5, 7};
        for (int what = 0; what < waiter.length; what++) {
            Due.is("told waiter", x.waiterOf(1, what), waiter[what]);
        }
        Due.is("moved", x.waiterOf(0, 4), 2);
        Due.is("hope, the latest", x.status(2), 0);
        Due.is("what there was stays", x.thingOf(0, 0), 1);
        Due.is("again, behind it", x.guild(0), 6);
        Due.is("things", x.status(1), 3);
        Due.is("the first told one moves", x.waiterOf(2, 4), 4);
        Due.row(x, 1, 3, 'h' + (1L << 40), 'o', 'p', 'e' - (1L << 32), ' ', '3');
        Due.is("of longs the lowest bits", x.guild(1), 1);
        Due.is("hope by longs", x.status(2), 3);
        Due.row(x, 1, 2, 'h' + (1 << 16), 'o', 'p', 'e', ' ', '3');
        Due.is("of ints all bits", x.guild(1), -6);
        Due.is("of ints all bits: fault", x.fault(), 0);
    }

    private static void guildFromNothing() {
        HiredToWait x = new HiredToWait();
        Due.text(x, 0, "thing 0 0 0 0 0 0 0;waiter 6 0 1 1 9;moves 0 0;thing 9 23 23 9 99 9 20;waiter 0 9 9 24 9");
        Due.is("the least and the most", x.guild(0), 5);
        int[] most = {9, 23, 23, 9, 99, 9, 20, 10};
        for (int what = 0; what < most.length; what++) {
            Due.is("the least thing", x.thingOf(0, what), what == 7 ? 1 : 0);
            Due.is("the greatest thing", x.thingOf(1, what), most[what]);
        }
        Due.is("the hoper", x.waiterOf(0, 0), 6);
        Due.is("the hoper's place", x.waiterOf(0, 4), 0);
        Due.is("the patient one", x.waiterOf(1, 3), 24);
        HiredToWait y = new HiredToWait();
        Due.text(y, 0, THING);
        Due.is("one item", y.guild(0), 1);
        Due.is("its corner", y.thingOf(0, 0), 4);
        Due.is("its cases", y.thingOf(0, 7), 6);
    }

    private static void guildRefused() {
        HiredToWait x = new HiredToWait();
        x.waiter(0, 0, 1, 1, 0);
        x.show(0, 0);
        Due.is("guild no shelf", x.guild(8), -1);
        Due.is("guild no shelf below", x.guild(-1), -1);
        Due.is("guild waiter", x.guild(0), -2);
        Due.is("guild nothing", x.guild(1), -3);
        Due.text(x, 2, "hope 5;moves 0 9;waiter 0 0 1 1 0;" + THING + ";hope 10");
        Due.is("guild with a fault", x.guild(2), -6);
        Due.is("nothing of it: hope", x.status(2), 1);
        Due.is("nothing of it: place", x.waiterOf(0, 4), 0);
        Due.is("nothing of it: waiters", x.status(0), 1);
        Due.is("nothing of it: things", x.status(1), 0);
        Due.refused(x, 2, 1, 1, 0, 0, 1, 0);
    }

    private static void faultIn(String letters, int place) {
        HiredToWait x = new HiredToWait();
        x.waiter(0, 0, 1, 1, 0);
        Due.text(x, 0, letters);
        Due.is("guild of '" + letters + "'", x.guild(0), -6);
        Due.is("fault of '" + letters + "'", x.fault(), place);
    }

    private static void faults() {
        faultIn("", 0);
        faultIn("x", 0);
        faultIn(" hope 1", 0);
        faultIn("Thing", 0);
        faultIn("thin", 4);
        faultIn("thinx 1", 4);
        faultIn("things", 5);
        faultIn("thing", 5);
        faultIn("thing ", 6);
        faultIn("thing  4", 6);
        faultIn("thing -4", 6);
        faultIn("thing 4", 7);
        faultIn("thing 4 2 6 1 50 3", 18);
        faultIn(THING + ";", 21);
        faultIn(THING + " ", 20);
        faultIn(THING + ";;", 21);
        faultIn(THING + "; hope 1", 21);
        faultIn(THING + ";hope 1,", 27);
        faultIn("hope 1hope 1", 6);
        faultIn("waiter 3 1 2 5", 14);
        faultIn("waiter 3 1 2 5 4 4", 16);
        faultIn("moves 0", 7);
        faultIn("hop", 3);
        faultIn("hope", 4);
        faultIn("hope 1\0", 6);
    }

    private static void faultsOfNumbers() {
        faultIn("thing 10 2 6 1 50 3 4", 6);
        faultIn("thing 4 24 24 1 50 3 4", 8);
        faultIn("thing 4 2 24 1 50 3 4", 10);
        faultIn("thing 4 2 1 1 50 3 4", 10);
        faultIn("thing 4 12 11", 11);
        faultIn("thing 4 2 1", 10);
        faultIn("thing 4 2 1x", 10);
        faultIn("thing 4 2 6 10 50 3 4", 12);
        faultIn("thing 4 2 6 1 100 3 4", 16);
        faultIn("thing 4 2 6 1 50 10 4", 17);
        faultIn("thing 4 2 6 1 50 3 21", 19);
        faultIn("waiter 7 1 2 5 4", 7);
        faultIn("waiter 3 10 2 5 4", 9);
        faultIn("waiter 3 1 0 5 4", 11);
        faultIn("waiter 3 1 10 5 4", 11);
        faultIn("waiter 3 1 2 0 4", 13);
        faultIn("waiter 3 1 2 25 4", 13);
        faultIn("waiter 3 1 2 5 10", 15);
        faultIn("moves 1 0", 6);
        faultIn("moves 00 10", 9);
        faultIn("moves 6 0", 6);
        faultIn("hope 10", 5);
        faultIn("hope 123", 5);
        faultIn("hope 012", 7);
        faultIn("waiter 0 0 1 1 0;moves 2 0", 23);
    }

    private static void faultsOfRoom() {
        HiredToWait x = new HiredToWait();
        for (int t = 0; t < 7; t++) {
            x.thing(0, 0, 0, 0, 0, 0, 0);
        }
        for (int w = 0; w < 6; w++) {
            x.waiter(0, 0, 1, 1, 0);
        }
        roomFault(x, "hope 2;waiter", 7);
        roomFault(x, "hope 2;waiterx", 7);
        roomFault(x, "hope 2;waite", 12);
        roomFault(x, "hope 2;waitex", 12);
        roomFault(x, THING + ";" + THING, 21);
        roomFault(x, THING + ";thing", 21);
        roomFault(x, THING + ";thin", 25);
        Due.text(x, 0, THING + ";moves 5 9;hope 4");
        Due.is("the last thing", x.guild(0), 3);
        roomFault(x, "thing 4", 0);
        roomFault(x, "th", 2);
    }

    private static void roomFault(HiredToWait x, String letters, int place) {
        Due.text(x, 0, letters);
        Due.is("guild of '" + letters + "'", x.guild(0), -6);
        Due.is("fault of '" + letters + "'", x.fault(), place);
    }

    private static void faultStays() {
        HiredToWait x = new HiredToWait();
        roomFault(x, "hope x", 5);
        Due.is("guild of nothing", x.guild(1), -3);
        Due.is("its fault stays", x.fault(), 5);
        x.image();
        x.restore();
        Due.is("no image has the fault", x.fault(), 5);
        Due.text(x, 0, "hope 1");
        Due.is("guild without fault", x.guild(0), 1);
        Due.is("none then", x.fault(), -1);
        Due.is("telling it is no refusal", x.status(16), 1);
    }
}
