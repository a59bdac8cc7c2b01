/** Promises 1 to 9, sentence by sentence. */
final class EdgesOfHouse {
    private static final int[] WILD = {-1, Integer.MIN_VALUE, Integer.MAX_VALUE, 1 << 16, -(1 << 16)};
    private static final String TWO = "house 7;lift at 2 lit 0 6 speed 4 stops 5;lift at 6 down;person home 1 in 0 load 3 age 4 worth 5;"
        + "person home 6 at 5;";

    private EdgesOfHouse() {}

    static void run() {
        newObject();
        feed();
        house();
        houseIsNew();
        houseWithAFault();
        houseRefused();
        fault();
        lift();
        person();
        foot();
        stop();
        calls();
    }

    private static void newObject() {
        Doc.says(1, "2 FLOORS, no LIFTS, no PEOPLE.");
        AllPressed x = new AllPressed();
        int[] counts = {2, 0, 0, 0, 0, 0, 0, 0, 0};
        for (int what = 0; what < 9; what++) Doc.due("count " + what, x.count(what), counts[what]);
        Doc.due("floor 0", x.calls(0), 0);
        Doc.due("floor 1", x.calls(1), 0);
        Doc.due("no floor 2", x.calls(2), -2);
        Doc.due("no lift", x.lift(0, 0), -8);
        Doc.due("no person", x.person(0, 0), -8);
        Doc.due("no person on foot", x.foot(0, 0, 0), -2);
        Doc.due("no lift that stops", x.stop(0, 0, 1), -2);
        Doc.due("rest", x.rest(), 0);
        Doc.due("away", x.away(1), 0);
        Doc.due("no lift is nearest", x.nearest(1), -1);
        Doc.due("no fault", x.fault(0), 0);
        Doc.due("no place of one", x.fault(1), -1);
        Doc.due("no image", x.restore(0), -5);
        Doc.due("nothing to undo", x.undo(1), -3);
        AllPressed other = Check.with(TWO);
        Doc.due("beside another one", other.count(1), 2);
        Doc.due("it stays as it is", x.count(1), 0);
    }

    private static void feed() {
        Doc.says(2, "Twenty bytes come behind those on THE TAPE, the highest of each int first: how many it has.");
        AllPressed x = new AllPressed();
        // "house 5;lift at 1 li" and "t 0 4;person home 3;"
        Doc.due("the first", x.feed(0x686f7573, 0x6520353b, 0x6c696674, 0x20617420, 0x31206c69), 20);
        Doc.due("behind those", x.feed(0x74203020, 0x343b7065, 0x72736f6e, 0x20686f6d, 0x6520333b), 40);
        Doc.due("read", x.house(40), 3);
        Doc.due("lit", x.lift(0, 2), 17);
        Doc.due("home", x.person(0, 3), 3);
        Doc.due("from the first on again", x.feed(0x686f7573, 0x65203132, 0x3b202020, 0x20202020, 0x20202020), 20);
        Doc.due("read again", x.house(20), 1);
        Doc.due("floors", x.count(0), 12);
        for (int place = 0; place < 20; place++) {
            int[] ints = {0x20202020, 0x20202020, 0x20202020, 0x20202020, 0x20202020};
            ints[place / 4] ^= 0xdf << 24 - place % 4 * 8;
            Doc.due("a byte of 255", x.feed(ints[0], ints[1], ints[2], ints[3], ints[4]), 20);
            Doc.due("it begins no token", x.house(20), -31);
            Doc.due("its place", x.fault(1), place);
        }
        Doc.says(2, "-5: it would have more than 900.");
        AllPressed full = new AllPressed();
        for (int i = 1; i <= 44; i++) full.feed(0x20202020, 0x20202020, 0x20202020, 0x20202020, 0x20202020);
        Doc.due("900", full.feed(0x20202020, 0x20202020, 0x20686f75, 0x73652031, 0x313b2020), 900);
        Doc.due("more", full.feed(0x20202020, 0x20202020, 0x20202020, 0x20202020, 0x20202023), -5);
        Doc.due("still more", full.feed(-1, -1, -1, -1, -1), -5);
        Doc.due("bytes", full.count(7), 900);
        Doc.due("as it was", full.house(900), 1);
        Doc.due("as it was", full.count(0), 11);
        Doc.due("room again", full.feed(-1, -1, -1, -1, -1), 20);
    }

    private static void house() {
        Doc.says(3, "The first n bytes of THE TAPE (which is empty then) are THE HOUSE, nothing can be UNDONE: how many LINES (house, too; all"
            + " stays with a FAULT).");
        AllPressed x = new AllPressed();
        Check.feed(x, "house 3;lift at 2;boy;#");
        Doc.due("the first 8", x.house(8), 1);
        Doc.due("empty then", x.count(7), 0);
        Doc.due("floors", x.count(0), 3);
        Doc.due("no lift", x.count(1), 0);
        Check.feed(x, "house 3;lift at 2;boy;#");
        Doc.due("the first 18", x.house(18), 2);
        Doc.due("a lift", x.count(1), 1);
        cutAfter("house 12;lift at 3;", new int[][] {{4, 2, 0}, {5, 2, 5}, {6, 2, 6}, {7, 3, 6}, {8, 2, 8}, {12, 2, 9}, {13, 2, 13}, {18, 2, 18}});
        cutAfter("house 12;lift at 1234;", new int[][] {{18, 2, 18}, {19, 3, 17}, {20, 3, 17}, {21, 1, 17}, {22, 1, 17}});
        Check.feed(x, "house 4;");
        Doc.due("all of them", x.house(20), 1);
        Doc.due("none of them", x.house(0), -32);
        Check.feed(x, "house 5;");
        Doc.due("none of some", x.house(0), -32);
        Doc.due("empty then, too", x.count(7), 0);
        Doc.due("stays", x.count(0), 4);
        Doc.due("lines", Check.tell(x, "house 2;foot:1;foot:2;stop:1;calls 0 times 1;calls 0 times 2;lift at 0;person home 0;"), 8);
        Doc.due("lines", x.count(8), 8);
        x.walks(0, 1);
        x.press(0, 1);
        Doc.due("two calls", x.count(6), 2);
        Doc.due("another", Check.tell(x, "house 2;lift at 0;person home 0;"), 3);
        Doc.due("nothing can be undone", x.count(6), 0);
        Doc.due("nothing can be undone", x.undo(1), -3);
    }

    /** Each row: so many bytes of the text, the fault and its place; what lies behind them on the tape is no part of the text. */
    private static void cutAfter(String text, int[][] rows) {
        for (int[] row : rows) {
            AllPressed x = new AllPressed();
            Check.feed(x, text);
            Doc.due("house " + row[0], x.house(row[0]), -30 - row[1]);
            Doc.due("its place", x.fault(1), row[2]);
        }
    }

    /** Nothing of an earlier house stays: flags, calls, laws, lights, seconds. */
    private static void houseIsNew() {
        AllPressed x = Check.with("house 12;lift at 9 speed 50 stops 77 lit 1 2 down;lift at 8 lit 9;lift at 7 lit 11;foot:55;stop:66;"
            + "person home 11 in 0 load 9 age 8 worth 7;" + "person home 3 at 4 worth 9;".repeat(7) + "calls 1 times 9;calls 11 times 9;");
        x.rides(0);
        for (int p = 1; p < 8; p++) x.walks(p, 11);
        Doc.due("lines", Check.tell(x, "house 2;lift at 0;person home 1;"), 3);
        AllPressed y = Check.with("house 2;lift at 0;person home 1;");
        Doc.same("as on a new object", State.of(x), State.of(y));
        int[] lift = {0, 0, 0, 1, 0, 3, -1};
        int[] person = {0, 0, -1, 1, 0, 0, 1};
        for (int what = 0; what < 7; what++) Doc.due("lift " + what, x.lift(0, what), lift[what]);
        for (int what = 0; what < 7; what++) Doc.due("person " + what, x.person(0, what), person[what]);
        Doc.due("stop", x.stop(0, 1, 1), 8);
        Doc.due("foot", x.foot(0, 0, 1), 10);
        Doc.due("calls", x.calls(1), 0);
        Doc.due("away", x.away(0), 0);
        Doc.due("lights", x.count(5), 0);
        Check.tell(x, "house 12;lift at 0;lift at 0;lift at 0;" + "person home 1;".repeat(8));
        AllPressed z = Check.with("house 12;lift at 0;lift at 0;lift at 0;" + "person home 1;".repeat(8));
        Doc.same("all of them", State.of(x), State.of(z));
    }

    private static void houseWithAFault() {
        String[] faulty = {"house 12;lift at 9 lit 1;person home 8 at 7 worth 3;foot:99;stop:98;calls 0 times 97;#",
            "house 3;boy;", "house 13;", "house 12;lift at 0;lift at 0;lift at 0;person home 1;lift at 0;", "house 12;stop:1;foot:"};
        int[] codes = {-31, -32, -33, -34, -32};
        for (int i = 0; i < faulty.length; i++) {
            AllPressed x = Check.with(TWO);
            x.rides(0);
            x.walks(1, 0);
            String before = State.of(x);
            Doc.due("a fault", Check.tell(x, faulty[i]), codes[i]);
            Doc.same("all stays", State.of(x), before);
            Doc.due("empty then", x.count(7), 0);
            Doc.due("two calls can be undone", x.undo(2), 0);
            Doc.same("undone", State.of(x), State.of(Check.with(TWO)));
            Doc.due("rides as told", x.rides(0), 6);
            Doc.due("by its own law", x.lift(0, 1), 16 + 5);
            Doc.due("a new house behind it", Check.tell(x, "house 4;lift at 3 lit 0;"), 2);
            Doc.same("as on a new object", State.of(x), State.of(Check.with("house 4;lift at 3 lit 0;")));
        }
    }

    private static void houseRefused() {
        Doc.says(3, "-3: n is below 0 or above what there is (THE TAPE stays)");
        AllPressed x = new AllPressed();
        Doc.due("one of none", x.house(1), -3);
        Doc.due("below 0", x.house(-1), -3);
        Check.feed(x, "house 7;");
        for (int n : new int[] {-1, -20, Integer.MIN_VALUE, 21, 900, 901, Integer.MAX_VALUE}) {
            Doc.due("house " + n, x.house(n), -3);
            Doc.due("the tape stays", x.count(7), 20);
            Doc.due("not read", x.fault(0), 0);
        }
        Doc.due("what there is", x.house(20), 1);
        Doc.due("as it was fed", x.count(0), 7);
        Doc.says(3, "-30 less the FAULT.");
        String[] texts = {"#", "boy;", "house 1;", "house 2;foot:((((((("};
        for (int kind = 1; kind <= 4; kind++) Doc.faulty(texts[kind - 1], kind, new int[] {0, 0, 6, 19}[kind - 1]);
    }

    private static void fault() {
        Doc.says(4, "Of the latest house() that was read, what 0: its FAULT (0), 1: its place (NONE).");
        AllPressed x = new AllPressed();
        Doc.due("none was read", x.fault(0), 0);
        Doc.due("none was read", x.fault(1), -1);
        String[] texts = {"house 3;", "house 3;boy;", "house 13;", "house 3; #", "house 3;"};
        int[][] want = {{0, -1}, {2, 8}, {3, 6}, {1, 9}, {0, -1}};
        for (int i = 0; i < texts.length; i++) {
            Check.tell(x, texts[i]);
            Doc.due("fault of " + texts[i], x.fault(0), want[i][0]);
            Doc.due("place in " + texts[i], x.fault(1), want[i][1]);
            Check.feed(x, "#");
            x.house(-1);
            x.house(21);
            Doc.due("not read: the fault stays", x.fault(0), want[i][0]);
            Doc.due("not read: the place stays", x.fault(1), want[i][1]);
            x.image(0);
            x.restore(0);
            Doc.due("an image has none", x.fault(0), want[i][0]);
            x.house(0);
            Doc.due("an empty one", x.fault(0), 2);
            Doc.due("an empty one", x.fault(1), 0);
        }
        Doc.says(4, "NONE for others.");
        Check.tell(x, "house 3;boy;");
        for (int what : WILD) Doc.due("fault " + what, x.fault(what), -1);
        Doc.due("fault 2", x.fault(2), -1);
    }

    private static void lift() {
        Doc.says(5, "Of a LIFT, what 0: its FLOOR, 1: its SECOND, 2: FLOORS that are lit, as bits, 3: 1 if it goes up, 0 down, 4: people in it,"
            + " as bits, 5: SPEED, 6: its next STOP (NONE: it RESTS).");
        AllPressed x = Check.with(TWO);
        int[][] want = {{2, 0, 65, 1, 1, 4, 6}, {6, 0, 0, 0, 0, 3, -1}};
        for (int l = 0; l < 2; l++) {
            for (int what = 0; what < 7; what++) Doc.due("lift " + l + " " + what, x.lift(l, what), want[l][what]);
        }
        x.rides(0);
        x.rides(0);
        int[] then = {0, 16 + 5 + 24 + 5, 0, 0, 1, 4, -1};
        for (int what = 0; what < 7; what++) Doc.due("then " + what, x.lift(0, what), then[what]);
        AllPressed full = Check.with("house 12;lift at 0;lift at 0;lift at 11 lit 0 1 2 3 4 5 6 7 8 9 10;" + "person home 1 in 2;".repeat(8));
        Doc.due("all of them", full.lift(2, 4), 255);
        Doc.due("all lights", full.lift(2, 2), 2047);
        Doc.due("next", full.lift(2, 6), 10);
        Doc.due("nobody", full.lift(1, 4), 0);
        Doc.says(5, "-8: no such LIFT, what.");
        for (int l : WILD) Doc.due("lift " + l, x.lift(l, 0), -8);
        for (int what : WILD) Doc.due("what " + what, x.lift(0, what), -8);
        Doc.due("lift 2", x.lift(2, 0), -8);
        Doc.due("lift 3", full.lift(3, 0), -8);
        Doc.due("what 7", x.lift(0, 7), -8);
        Doc.due("no such lift, its next stop", x.lift(2, 6), -8);
    }

    private static void person() {
        Doc.says(6, "Of a person, what 0: its FLOOR, 1: its SECOND, 2: the LIFT it is in (NONE), 3: HOME, 4: load, 5: age, 6: worth.");
        AllPressed x = Check.with(TWO);
        int[][] want = {{2, 0, 0, 1, 3, 4, 5}, {5, 0, -1, 6, 0, 0, 1}};
        for (int p = 0; p < 2; p++) {
            for (int what = 0; what < 7; what++) Doc.due("person " + p + " " + what, x.person(p, what), want[p][what]);
        }
        x.walks(1, 6);
        x.in(1, 1);
        int[] then = {6, 10, 1, 6, 0, 0, 1};
        for (int what = 0; what < 7; what++) Doc.due("then " + what, x.person(1, what), then[what]);
        Doc.says(6, "-8: no such person, what.");
        for (int p : WILD) Doc.due("person " + p, x.person(p, 0), -8);
        for (int what : WILD) Doc.due("what " + what, x.person(0, what), -8);
        Doc.due("person 2", x.person(2, 0), -8);
        Doc.due("what 7", x.person(0, 7), -8);
        AllPressed full = Check.with("house 12;" + "person home 1;".repeat(8));
        Doc.due("person 7", full.person(7, 3), 1);
        Doc.due("person 8", full.person(8, 3), -8);
    }

    private static void foot() {
        Doc.says(7, "Seconds on FOOT from a FLOOR to another one (0: both one).");
        AllPressed x = Check.with("house 12;person home 1;person home 1 load 2;foot:floor*10+up+load*100;" + "person home 0;".repeat(6));
        Doc.due("up", x.foot(0, 9, 11), 91 + 101);
        Doc.due("down", x.foot(0, 11, 9), 110 + 100);
        Doc.due("another one", x.foot(1, 0, 1), 201);
        Doc.due("all the way", x.foot(7, 0, 11), 550 + 11);
        for (int f = 0; f < 12; f++) Doc.due("both " + f, x.foot(0, f, f), 0);
        Doc.says(7, "-2: the person, FLOORS.");
        for (int i : WILD) {
            Doc.due("person " + i, x.foot(i, 0, 1), -2);
            Doc.due("from " + i, x.foot(0, i, 1), -2);
            Doc.due("to " + i, x.foot(0, 1, i), -2);
        }
        Doc.due("person 8", x.foot(8, 0, 1), -2);
        Doc.due("from 12", x.foot(0, 12, 1), -2);
        Doc.due("to 12", x.foot(0, 1, 12), -2);
        Doc.due("both 12", x.foot(0, 12, 12), -2);
    }

    private static void stop() {
        Doc.says(8, "How long a LIFT STOPS at a FLOOR with so many lights (1 to 11) lit.");
        AllPressed x = Check.with("house 12;lift at 1;lift at 2;lift at 3;stop:lift*300+floor*20+lit;");
        for (int lit = 1; lit <= 11; lit++) {
            Doc.due("lit " + lit, x.stop(0, 0, lit), lit);
            Doc.due("lit " + lit, x.stop(2, 11, lit), 820 + lit);
        }
        AllPressed small = Check.with("house 2;lift at 0;stop:lit;");
        Doc.due("its own floor, more than there are", small.stop(0, 0, 11), 11);
        Doc.says(8, "-2: the LIFT, the FLOOR; -3.");
        for (int i : WILD) {
            Doc.due("lift " + i, x.stop(i, 0, 1), -2);
            Doc.due("floor " + i, x.stop(0, i, 1), -2);
            Doc.due("lit " + i, x.stop(0, 0, i), -3);
        }
        Doc.due("lift 3", x.stop(3, 0, 1), -2);
        Doc.due("floor 12", x.stop(0, 12, 1), -2);
        Doc.due("floor 2 of 2", small.stop(0, 2, 1), -2);
        Doc.due("none", x.stop(0, 0, 0), -3);
        Doc.due("twelve", x.stop(0, 0, 12), -3);
    }

    private static void calls() {
        Doc.says(9, "How often is called from a FLOOR. -2.");
        AllPressed x = Check.with("house 12;calls 0 times 99;calls 11 times 1;calls 5 times 0;");
        int[] want = {99, 0, 0, 0, 0, 0, 0, 0, 0, 0, 0, 1};
        for (int f = 0; f < 12; f++) Doc.due("calls " + f, x.calls(f), want[f]);
        for (int f : WILD) Doc.due("calls " + f, x.calls(f), -2);
        Doc.due("calls 12", x.calls(12), -2);
        Doc.due("calls 3 of 3", Check.with("house 3;calls 2 times 1;").calls(3), -2);
    }
}
