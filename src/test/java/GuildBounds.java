/** The bounds that the document's part THE GUILD and promises 9 to 14 and 16 to 17 name. */
final class GuildBounds {
    private static final int NONE = HiredToWait.NONE;
    private static final String LONGEST = "hope 1;".repeat(22) + "hope 2";
    private static final String ALL_ITEMS = "thing 4 1 16 1 50 3 14;waiter 3 1 2 15 4;moves 1 6;hope 5;thing 0 0 0 0 0 0 0";

    private GuildBounds() {
    }

    static void all() {
        calls();
        things();
        waiters();
        changes();
        told();
        texts();
        faults();
        room();
        promises();
    }

    private static void calls() {
        Sentence.says("An object is used for at most 512 calls after it has been made", () -> {
            HiredToWait x = new HiredToWait();
            for (int call = 1; call <= 511; call++) {
                Due.is("call " + call, x.seed(call + 1), call);
            }
            Due.is("the 512th call", x.status(6), 512);
            HiredToWait y = new HiredToWait();
            for (int call = 1; call <= 511; call++) {
                Due.is("refused call " + call, y.days(0), -6);
            }
            Due.is("the 512th call", y.status(16), 511);
        });
        Sentence.says("public static final int NONE = -1;", () -> Due.is("NONE", NONE, -1));
    }

    /** A thing with one of its numbers told otherwise: the number's bounds, and what is beyond them. */
    private static void thingBounds(int which, int least, int most) {
        int[] n = {5, 5, 20, 5, 5, 5, 5};
        HiredToWait x = new HiredToWait();
        Due.is("least", thing(x, n, which, least), 0);
        Due.is("least is told", x.thingOf(0, which), least);
        Due.is("most", thing(x, n, which, most), 1);
        Due.is("most is told", x.thingOf(1, which), most);
        Due.is("below", thing(x, n, which, least - 1), -6);
        Due.is("beyond", thing(x, n, which, most + 1), -6);
        Due.is("far below", thing(x, n, which, Integer.MIN_VALUE), -6);
        Due.is("far beyond", thing(x, n, which, Integer.MAX_VALUE), -6);
        Due.is("two things", x.status(1), 2);
    }

    private static int thing(HiredToWait x, int[] numbers, int which, int v) {
        int[] n = numbers.clone();
        n[which] = v;
        return x.thing(n[0], n[1], n[2], n[3], n[4], n[5], n[6]);
    }

    private static void things() {
        Sentence.says("CORNERS are 0 to 9", () -> thingBounds(0, 0, 9));
        Sentence.says(", in a row.", () -> {
            HiredToWait x = new HiredToWait();
            x.waiter(3, 0, 1, 1, 9);
            x.thing(0, 0, 0, 0, 1, 0, 0);
            Due.is("0 isn't beside 9", x.lookouts(0), 0b0000000111);
            Due.is("nor seen from it", x.seen(0, 0), 0);
            x.thing(9, 0, 0, 0, 1, 0, 0);
            Due.is("nor 9 beside 0", x.lookouts(0), 0b1110000111);
        });
        Sentence.says("THINGS have numbers, from 0 on, 8 at most", () -> {
            HiredToWait x = new HiredToWait();
            for (int t = 0; t < 8; t++) {
                Due.is("thing", x.thing(0, t, t, 0, 0, 0, 0), t);
            }
            Due.is("a ninth", x.thing(0, 0, 0, 0, 0, 0, 0), -7);
            Due.is("eight", x.status(1), 8);
            Due.is("the last", x.thingOf(7, 1), 7);
            Due.is("none behind it", x.thingOf(8, 1), -5);
        });
        Sentence.says("FIRST and LAST quarter (0 to 23", () -> {
            thingBounds(1, 0, 20);
            thingBounds(2, 5, 23);
            HiredToWait x = new HiredToWait();
            Due.is("23 to 23", x.thing(0, 23, 23, 0, 0, 0, 0), 0);
            Due.is("24 to 24", x.thing(0, 24, 24, 0, 0, 0, 0), -6);
            Due.is("-1 to -1", x.thing(0, -1, -1, 0, 0, 0, 0), -6);
        });
        Sentence.says("LAST no lesser)", () -> {
            HiredToWait x = new HiredToWait();
            Due.is("alike", x.thing(0, 7, 7, 0, 0, 0, 0), 0);
            Due.is("lesser", x.thing(0, 7, 6, 0, 0, 0, 0), -6);
            Due.is("far lesser", x.thing(0, 23, 0, 0, 0, 0, 0), -6);
        });
        Sentence.says("NEVER (0 to 9)", () -> thingBounds(3, 0, 9));
        Sentence.says("WORTH (0 to 99)", () -> thingBounds(4, 0, 99));
        Sentence.says("STAYS (0 to 9: quarters)", () -> thingBounds(5, 0, 9));
        Sentence.says("AWAY (0 to 20: how many quarters off its owner is)", () -> thingBounds(6, 0, 20));
    }

    private static void waiterBounds(int which, int least, int most, int refusal) {
        int[] n = {5, 5, 5, 5, 5};
        HiredToWait x = new HiredToWait();
        Due.is("least", waiter(x, n, which, least), 0);
        Due.is("least is told", x.waiterOf(0, which), least);
        Due.is("most", waiter(x, n, which, most), 1);
        Due.is("most is told", x.waiterOf(1, which), most);
        Due.is("below", waiter(x, n, which, least - 1), refusal);
        Due.is("beyond", waiter(x, n, which, most + 1), refusal);
        Due.is("far below", waiter(x, n, which, Integer.MIN_VALUE), refusal);
        Due.is("far beyond", waiter(x, n, which, Integer.MAX_VALUE), refusal);
        Due.is("two waiters", x.status(0), 2);
    }

    private static int waiter(HiredToWait x, int[] numbers, int which, int v) {
        int[] n = numbers.clone();
        n[which] = v;
        return x.waiter(n[0], n[1], n[2], n[3], n[4]);
    }

    private static void waiters() {
        Sentence.says("WAITERS have numbers, from 0 on, 6 at most", () -> {
            HiredToWait x = new HiredToWait();
            for (int w = 0; w < 6; w++) {
                Due.is("waiter", x.waiter(0, w, 1, 1, 0), w);
            }
            Due.is("a seventh", x.waiter(0, 0, 1, 1, 0), -7);
            Due.is("six", x.status(0), 6);
            Due.is("the last", x.waiterOf(5, 1), 5);
            Due.is("none behind him", x.waiterOf(6, 1), -5);
        });
        Sentence.says("each of a KIND: 0 WAITER; 1 MASTER, 2 LOVER, 4 APPRENTICE, each under WAITER; "
            + "3 ENDLESS, under MASTER; 5 RELIEVER, under LOVER; 6 HOPER, under APPRENTICE", () -> {
            waiterBounds(0, 0, 6, -1);
            for (int kind = 0; kind < 7; kind++) {
                kindIsUnder(kind);
            }
        });
        Sentence.says("; a (0 to 9)", () -> waiterBounds(1, 0, 9, -6));
        Sentence.says("PAY (1 to 9)", () -> waiterBounds(2, 1, 9, -6));
        Sentence.says("PATIENCE (1 to 24)", () -> waiterBounds(3, 1, 24, -6));
        Sentence.says("AT (a CORNER)", () -> waiterBounds(4, 0, 9, -6));
    }

    private static void kindIsUnder(int kind) {
        String[] under = {"0", "10", "20", "310", "40", "520", "640"};
        HiredToWait x = new HiredToWait();
        x.waiter(kind, 1, 1, 1, 1);
        x.show(0, 0);
        for (int wanted = 0; wanted < 7; wanted++) {
            boolean is = under[kind].indexOf((char) ('0' + wanted)) >= 0;
            Due.is("kind " + kind + " as " + wanted, x.says(0, wanted), is ? 1 : -2);
        }
    }

    private static void changes() {
        Sentence.says("HOPE (0 to 9; 1 at first).", () -> {
            HiredToWait x = new HiredToWait();
            Due.is("hope at first", x.status(2), 1);
            Due.is("most", x.ask(9), 1);
            Due.is("beyond", x.ask(10), -6);
            Due.is("least", x.ask(0), 9);
            Due.is("below", x.ask(-1), -6);
            Due.is("far below", x.ask(Integer.MIN_VALUE), -6);
            Due.is("hope at last", x.status(2), 0);
        });
        Sentence.says("DAYS, TAKINGS, WAGES (0 at first).", () -> {
            HiredToWait x = new HiredToWait();
            for (int what = 3; what <= 5; what++) {
                Due.is("status(" + what + ")", x.status(what), 0);
            }
        });
        Sentence.says("`int move(int waiter, int corner)`: A WAITER goes to a CORNER: where he was. -1; -6.", () -> {
            HiredToWait x = new HiredToWait();
            x.waiter(0, 0, 1, 1, 4);
            Due.is("nobody", x.move(1, 0), -1);
            Due.is("nobody below", x.move(-1, 0), -1);
            Due.is("corner 9", x.move(0, 9), 4);
            Due.is("corner 10", x.move(0, 10), -6);
            Due.is("corner 0", x.move(0, 0), 9);
            Due.is("corner -1", x.move(0, -1), -6);
            Due.is("where he is", x.waiterOf(0, 4), 0);
            Due.is("to where he is", x.move(0, 0), 0);
        });
        Sentence.says("`int ask(int v)`: HOPE becomes v: what it was. -6.", () -> {
            HiredToWait x = new HiredToWait();
            for (int v = 0; v <= 9; v++) {
                Due.is("ask", x.ask(v), v == 0 ? 1 : v - 1);
            }
            Due.is("ask 10", x.ask(10), -6);
            Due.is("ask -1", x.ask(-1), -6);
            Due.refused(x, 0, 0, 0, 0, 0, 2, 0);
        });
    }

    private static void told() {
        Sentence.says("Of a THING: 0 CORNER, 1 FIRST, 2 LAST, 3 NEVER, 4 WORTH, 5 STAYS, 6 AWAY, 7 CASES. "
            + "-5: no such one, another what.", () -> {
            HiredToWait x = new HiredToWait();
            x.thing(1, 2, 3, 4, 5, 6, 7);
            for (int what = 0; what <= 6; what++) {
                Due.is("what " + what, x.thingOf(0, what), what + 1);
            }
            Due.is("what 7", x.thingOf(0, 7), 6);
            Due.is("what 8", x.thingOf(0, 8), -5);
            Due.is("what -1", x.thingOf(0, -1), -5);
            Due.is("thing 1", x.thingOf(1, 0), -5);
            Due.is("thing -1", x.thingOf(-1, 0), -5);
            Due.is("neither", x.thingOf(8, 8), -5);
            Due.refused(x, 0, 0, 0, 0, 5, 0, 0);
        });
        Sentence.says("Of a WAITER: 0 KIND, 1 a, 2 PAY, 3 PATIENCE, 4 AT, 5 HOLDS, 6 SEES. "
            + "-5: no such one, another what.", () -> {
            HiredToWait x = new HiredToWait();
            x.waiter(1, 2, 3, 4, 5);
            int[] due = {1, 2, 3, 4, 5, 8, 1};
            for (int what = 0; what <= 6; what++) {
                Due.is("what " + what, x.waiterOf(0, what), due[what]);
            }
            Due.is("what 7", x.waiterOf(0, 7), -5);
            Due.is("what -1", x.waiterOf(0, -1), -5);
            Due.is("waiter 1", x.waiterOf(1, 0), -5);
            Due.is("waiter -1", x.waiterOf(-1, 0), -5);
            Due.is("neither", x.waiterOf(6, 7), -5);
            Due.refused(x, 0, 0, 0, 0, 5, 0, 0);
        });
    }

    /** One waiter there, then the text: the answer. */
    private static HiredToWait read(String letters, int answer) {
        HiredToWait x = new HiredToWait();
        x.waiter(0, 0, 1, 1, 3);
        Due.text(x, 0, letters);
        Due.is("guild of '" + letters + "'", x.guild(0), answer);
        return x;
    }

    private static void faultIn(String letters, int place) {
        Due.is("fault of '" + letters + "'", read(letters, -6).fault(), place);
    }

    private static void texts() {
        Sentence.says("A GUILD is read from a ROW of letters: ITEM, then any number of times ; and ITEM", () -> {
            faultIn("", 0);
            read("hope 3", 1);
            Due.is("as many elements as may be", LONGEST.length(), 160);
            Due.is("the last item", read(LONGEST, 23).status(2), 2);
            faultIn(";", 0);
            faultIn("hope 3;", 7);
            faultIn(";hope 3", 0);
            faultIn("hope 3;;hope 3", 7);
            faultIn("hope 3 hope 3", 6);
            faultIn("hope 1;".repeat(22) + "hope ;", 159);
            faultIn("hope 01;".repeat(20), 160);
        });
        Sentence.says("thing C F L N W S A", () -> {
            HiredToWait x = read("thing 0 0 0 0 0 0 0;thing 9 23 23 9 99 9 20", 2);
            int[] most = {9, 23, 23, 9, 99, 9, 20};
            for (int what = 0; what < 7; what++) {
                Due.is("least", x.thingOf(0, what), 0);
                Due.is("most", x.thingOf(1, what), most[what]);
            }
            numbersOutOfRange(new String[] {"thing", "5", "5", "20", "5", "5", "5", "5"}, 10, 24, 24, 10, 100, 10, 21);
        });
        Sentence.says("waiter K A P Q C (PAY, PATIENCE, AT)", () -> {
            HiredToWait x = read("waiter 0 0 1 1 0;waiter 6 9 9 24 9", 2);
            int[] least = {0, 0, 1, 1, 0};
            int[] most = {6, 9, 9, 24, 9};
            for (int what = 0; what < 5; what++) {
                Due.is("least", x.waiterOf(1, what), least[what]);
                Due.is("most", x.waiterOf(2, what), most[what]);
            }
            numbersOutOfRange(new String[] {"waiter", "5", "5", "5", "5", "5"}, 7, 10, 10, 25, 10);
            faultIn("waiter 0 0 0 1 0", 11);
            faultIn("waiter 0 0 1 0 0", 13);
        });
        Sentence.says("moves W C", () -> {
            Due.is("moved to 9", read("moves 0 9", 1).waiterOf(0, 4), 9);
            Due.is("moved to 0", read("moves 0 0", 1).waiterOf(0, 4), 0);
            numbersOutOfRange(new String[] {"moves", "0", "5"}, 1, 10);
            faultIn("moves 6 0", 6);
        });
        Sentence.says("hope N", () -> {
            Due.is("hope 0", read("hope 0", 1).status(2), 0);
            Due.is("hope 9", read("hope 9", 1).status(2), 9);
            numbersOutOfRange(new String[] {"hope", "5"}, 10);
        });
        Sentence.says("(L less than F: its place)", () -> {
            read("thing 0 12 12 0 0 0 0", 1);
            faultIn("thing 0 12 11 0 0 0 0", 11);
            faultIn("thing 0 6 2 0 0 0 0", 10);
        });
    }

    /** Each number in turn is told as the first that is out of range, alike with one and with two digits. */
    private static void numbersOutOfRange(String[] words, int... beyond) {
        for (int i = 0; i < beyond.length; i++) {
            String[] told = words.clone();
            told[i + 1] = "" + beyond[i];
            int place = String.join(" ", java.util.Arrays.copyOf(told, i + 1)).length() + 1;
            // 100 has a digit too many, which is what can't stand
            faultIn(String.join(" ", told), beyond[i] < 100 ? place : place + 2);
            if (beyond[i] < 10) {
                told[i + 1] = "0" + beyond[i];
                faultIn(String.join(" ", told), place);
            }
        }
    }

    private static void faults() {
        Sentence.says("One blank between words and NUMBERS (1 to 2 digits).", () -> {
            faultIn("hope  3", 5);
            faultIn("hope3", 4);
            faultIn("moves 0  3", 8);
            faultIn("moves 0 3 ", 9);
            faultIn(" hope 3", 0);
            faultIn("hope 3; hope 3", 7);
            faultIn("hope ", 5);
            faultIn("hope ;", 5);
            read("hope 03", 1);
            faultIn("hope 003", 7);
            faultIn("moves 00 009", 11);
            faultIn("hope -3", 5);
            faultIn("hope +3", 5);
            faultIn("thing 0 :", 8);
            faultIn("thing 0 ;", 8);
            faultIn("thing 0 0 0 0 A", 14);
            faultIn("thing 0 0 0 0 1:", 15);
            faultIn("hope /", 5);
            faultIn("hope :", 5);
            faultIn("hope 3/", 6);
            faultIn("hope 3:", 6);
        });
        Sentence.says("All is told over what there is, or nothing", () -> {
            String text = "hope 5;moves 0 9;waiter 0 0 1 1 0;thing 0 0 0 0 0 0 0";
            HiredToWait x = read(text, 4);
            Due.is("hope", x.status(2), 5);
            Due.is("place", x.waiterOf(0, 4), 9);
            Due.is("waiters", x.status(0), 2);
            Due.is("things", x.status(1), 1);
            HiredToWait y = read(text + ";", -6);
            Due.is("no hope", y.status(2), 1);
            Due.is("no place", y.waiterOf(0, 4), 3);
            Due.is("no waiters", y.status(0), 1);
            Due.is("no things", y.status(1), 0);
        });
        Sentence.says("The FAULT: the first place at which an element can't stand as such texts go on "
            + "(the number of elements, if it ends too early)", () -> {
            Due.is("the whole text", read(ALL_ITEMS, 5).fault(), NONE);
            for (int end = 0; end < ALL_ITEMS.length(); end++) {
                boolean isWhole = ALL_ITEMS.charAt(end) == ';' || ALL_ITEMS.startsWith("4;waiter", end);
                if (isWhole) {
                    Due.is("cut at " + end, read(ALL_ITEMS.substring(0, end), 1 + semicolons(end)).fault(), NONE);
                } else {
                    faultIn(ALL_ITEMS.substring(0, end), end);
                }
                faultIn(ALL_ITEMS.substring(0, end) + '!' + ALL_ITEMS.substring(end + 1), end);
            }
            faultIn(ALL_ITEMS + "!", ALL_ITEMS.length());
        });
        Sentence.says("of a NUMBER that may not be the place of its first digit", () -> {
            faultIn("hope 10", 5);
            faultIn("hope 99", 5);
            faultIn("hope 10;", 5);
            faultIn("hope 100", 5);
            faultIn("moves 0 10;hope 3", 8);
            faultIn("hope 3;hope 10", 12);
        });
        Sentence.says("a NUMBER out of range is the FAULT as soon as it is whole.", () -> {
            faultIn("thing 10!", 6);
            faultIn("moves 1!", 6);
            faultIn("moves 1 99", 6);
            faultIn("waiter 7 10 10 25 10", 7);
            faultIn("thing 0 9 8;hope x", 10);
        });
    }

    private static int semicolons(int end) {
        int found = 0;
        for (int i = 0; i < end; i++) {
            if (ALL_ITEMS.charAt(i) == ';') found++;
        }
        return found;
    }

    private static void room() {
        Sentence.says("(what there is no room for can't stand: its word, once that is whole)", () -> {
            HiredToWait x = full();
            faultOfFull(x, "thing 0 0 0 0 0 0 0", 0);
            faultOfFull(x, "waiter 0 0 1 1 0", 0);
            faultOfFull(x, "hope 3;thing 10", 7);
            faultOfFull(x, "hope 3;waiterx", 7);
            HiredToWait y = new HiredToWait();
            for (int t = 0; t < 7; t++) {
                y.thing(0, 0, 0, 0, 0, 0, 0);
            }
            faultOfFull(y, "thing 0 0 0 0 0 0 0;thing 0 0 0 0 0 0 0", 20);
            Due.is("none of it", y.status(1), 7);
            Due.text(y, 0, "thing 0 0 0 0 0 0 0");
            Due.is("the eighth", y.guild(0), 1);
            Due.is("eight", y.status(1), 8);
            HiredToWait z = new HiredToWait();
            for (int w = 0; w < 5; w++) {
                z.waiter(0, 0, 1, 1, 0);
            }
            faultOfFull(z, "waiter 0 0 1 1 0;waiter 0 0 1 1 0", 17);
            Due.text(z, 0, "waiter 0 0 1 1 0");
            Due.is("the sixth", z.guild(0), 1);
        });
        Sentence.says("Whether there is room for a word is asked when its letters stand whole: until then the first "
            + "element that is not as it is the FAULT, or the number of elements.", () -> {
            HiredToWait x = full();
            faultOfFull(x, "thing", 0);
            faultOfFull(x, "thin", 4);
            faultOfFull(x, "t", 1);
            faultOfFull(x, "thinx", 4);
            faultOfFull(x, "txing", 1);
            faultOfFull(x, "waiter", 0);
            faultOfFull(x, "waite", 5);
            faultOfFull(x, "w", 1);
            faultOfFull(x, "waitex 0", 5);
            faultOfFull(x, "hope 3;waite", 12);
            faultOfFull(x, "hope 3;", 7);
        });
        Sentence.says("ITEMS of a text come behind what there is; WAITERS that the same text told can move", () -> {
            HiredToWait x = read("waiter 1 2 3 4 5;moves 1 9;thing 1 2 3 4 5 6 7", 3);
            Due.is("who was there", x.waiterOf(0, 4), 3);
            Due.is("who is told", x.waiterOf(1, 0), 1);
            Due.is("where he moved", x.waiterOf(1, 4), 9);
            Due.is("again", x.guild(0), 3);
            Due.is("behind", x.status(0), 3);
            Due.is("behind", x.status(1), 2);
            faultIn("moves 1 9;waiter 1 2 3 4 5", 6);
            faultIn("waiter 1 2 3 4 5;moves 2 9", 23);
            HiredToWait y = new HiredToWait();
            faultOfFull(y, "moves 0 0", 6);
        });
    }

    private static HiredToWait full() {
        HiredToWait x = new HiredToWait();
        for (int t = 0; t < 8; t++) {
            x.thing(0, 0, 0, 0, 0, 0, 0);
        }
        for (int w = 0; w < 6; w++) {
            x.waiter(0, 0, 1, 1, 0);
        }
        return x;
    }

    private static void faultOfFull(HiredToWait x, String letters, int place) {
        Due.text(x, 0, letters);
        Due.is("guild of '" + letters + "'", x.guild(0), -6);
        Due.is("fault of '" + letters + "'", x.fault(), place);
    }

    private static void promises() {
        Sentence.says("`HiredToWait()`: Nobody, nothing.", () -> {
            HiredToWait x = new HiredToWait();
            Due.is("waiters", x.status(0), 0);
            Due.is("things", x.status(1), 0);
            Due.is("no waiter", x.waiterOf(0, 0), -5);
            Due.is("no thing", x.thingOf(0, 0), -5);
            for (int s = 0; s < 8; s++) {
                Due.is("shelf " + s, x.holds(s), NONE);
            }
        });
        Sentence.says("A THING: the number. -6; -7.", () -> {
            HiredToWait x = full();
            Due.is("wrong and no room", x.thing(10, 0, 0, 0, 0, 0, 0), -6);
            Due.is("no room", x.thing(9, 0, 0, 0, 0, 0, 0), -7);
            Due.refused(x, 0, 0, 0, 0, 0, 1, 1);
        });
        Sentence.says("A WAITER: the number. -1 KIND; -6; -7.", () -> {
            HiredToWait x = full();
            Due.is("no kind, wrong and no room", x.waiter(7, 10, 0, 0, 10), -1);
            Due.is("wrong and no room", x.waiter(6, 0, 0, 1, 0), -6);
            Due.is("no room", x.waiter(6, 0, 1, 1, 0), -7);
            Due.refused(x, 1, 0, 0, 0, 0, 1, 1);
        });
        Sentence.says("A GUILD by the ROW in SHELF s: how many ITEMS. -1; -2; -3; -6 a FAULT.", () -> {
            HiredToWait x = new HiredToWait();
            x.waiter(0, 0, 1, 1, 0);
            x.show(0, 0);
            x.row(1, 0, 0);
            Due.is("shelf 8", x.guild(8), -1);
            Due.is("shelf -1", x.guild(-1), -1);
            Due.is("a waiter", x.guild(0), -2);
            Due.is("nothing", x.guild(2), -3);
            Due.is("an empty row", x.guild(1), -6);
            Due.text(x, 7, "hope 0;hope 4");
            Due.is("the last shelf", x.guild(7), 2);
            Due.refused(x, 2, 1, 1, 0, 0, 1, 0);
        });
        Sentence.says("The FAULT of the latest guild() that came to a ROW; NONE: there was none, or none yet.", () -> {
            HiredToWait x = new HiredToWait();
            Due.is("none yet", x.fault(), NONE);
            Due.is("no row", x.guild(1), -3);
            Due.is("still none", x.fault(), NONE);
            faultOfFull(x, "hope x", 5);
            Due.is("no row", x.guild(1), -3);
            Due.is("no shelf", x.guild(8), -1);
            Due.is("the latest that came to a row", x.fault(), 5);
            x.row(0, 0, 0);
            Due.is("an empty row", x.guild(0), -6);
            Due.is("its fault", x.fault(), 0);
            Due.text(x, 0, "hope 3");
            Due.is("a whole one", x.guild(0), 1);
            Due.is("there was none", x.fault(), NONE);
        });
    }
}
