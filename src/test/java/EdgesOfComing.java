/** Promises 20 to 30, sentence by sentence. */
final class EdgesOfComing {
    private static final int[] WILD = {-1, Integer.MIN_VALUE, Integer.MAX_VALUE, 1 << 16, -(1 << 16)};

    /** Comes to 5 at 2, goes at 42; to 7 at 46, goes at 76; to 3 at 84, goes at 104; to 0 at 110, goes at 120. */
    private static final String FOUR_STOPS = "house 9;lift at 4 lit 0 3 5 7 speed 2;lift at 1 stops 0 speed 1;"
        + "stop : lit * 10;person home 2 in 0 worth 3;person home 8 in 0;person home 1 at 6;person home 4 in 0 worth 7;"
        + "person home 5 in 0;";

    /** All eleven others are lit. */
    private static final String ELEVEN = "house 12;lift at 0;lift at 0;lift at 11 lit 0 1 2 3 4 5 6 7 8 9 10 speed 1 stops 2;"
        + "person home 0 in 2;foot:99;";

    private EdgesOfComing() {}

    static void run() {
        stops();
        stopAt();
        comes();
        restsBy();
        best();
        homeBy();
        all();
        latest();
        walkers();
        waits();
        choice();
    }

    private static void stops() {
        Doc.says(20, "How many STOPS a LIFT makes till it RESTS. -2.");
        AllPressed x = Check.with(FOUR_STOPS);
        Doc.due("four", x.stops(0), 4);
        Doc.due("rests", x.stops(1), 0);
        x.rides(0);
        Doc.due("three", x.stops(0), 3);
        Doc.due("eleven", Check.with(ELEVEN).stops(2), 11);
        for (int l : WILD) Doc.due("lift " + l, x.stops(l), -2);
        Doc.due("lift 2", x.stops(2), -2);
        Doc.due("lift 3", Check.with(ELEVEN).stops(3), -2);
    }

    private static void stopAt() {
        Doc.says(21, "The FLOOR of its k-th STOP (0: the next).");
        AllPressed x = Check.with(FOUR_STOPS);
        int[] want = {5, 7, 3, 0};
        for (int k = 0; k < 4; k++) Doc.due("stop " + k, x.stopAt(0, k), want[k]);
        AllPressed eleven = Check.with(ELEVEN);
        for (int k = 0; k < 11; k++) Doc.due("stop " + k, eleven.stopAt(2, k), 10 - k);
        Doc.says(21, "NONE: not so many; -2; -3: k is below 0.");
        Doc.due("the fifth of four", x.stopAt(0, 4), -1);
        Doc.due("the twelfth of eleven", eleven.stopAt(2, 11), -1);
        Doc.due("the thirteenth of eleven", eleven.stopAt(2, 12), -1);
        Doc.due("far", x.stopAt(0, Integer.MAX_VALUE), -1);
        Doc.due("the first of none", x.stopAt(1, 0), -1);
        for (int l : WILD) Doc.due("lift " + l, x.stopAt(l, 0), -2);
        Doc.due("lift 2", x.stopAt(2, 0), -2);
        Doc.due("below 0", x.stopAt(0, -1), -3);
        Doc.due("below 0, of none", x.stopAt(1, -1), -3);
        Doc.due("far below 0", x.stopAt(0, Integer.MIN_VALUE), -3);
    }

    private static void comes() {
        Doc.says(22, "The SECOND at which it comes to a FLOOR where it STOPS.");
        AllPressed x = Check.with(FOUR_STOPS);
        int[] want = {110, -1, -1, 84, -1, 2, -1, 46, -1};
        for (int f = 0; f < 9; f++) Doc.due("comes to " + f, x.comes(0, f), want[f]);
        AllPressed eleven = Check.with(ELEVEN);
        for (int k = 0; k < 11; k++) Doc.due("comes to " + (10 - k), eleven.comes(2, 10 - k), 1 + 3 * k);
        Doc.says(22, "NONE: it never does; -2.");
        Doc.due("passes by", x.comes(0, 6), -1);
        Doc.due("never", x.comes(0, 8), -1);
        Doc.due("is there", x.comes(0, 4), -1);
        Doc.due("rests", x.comes(1, 0), -1);
        x.rides(0);
        Doc.due("was there", x.comes(0, 5), -1);
        for (int i : WILD) {
            Doc.due("lift " + i, x.comes(i, 0), -2);
            Doc.due("floor " + i, x.comes(0, i), -2);
        }
        Doc.due("lift 2", x.comes(2, 0), -2);
        Doc.due("floor 9", x.comes(0, 9), -2);
    }

    private static void restsBy() {
        Doc.says(23, "The SECOND of it as it RESTS at last. -2.");
        AllPressed x = Check.with(FOUR_STOPS);
        Doc.due("at last", x.restsBy(0), 120);
        Doc.due("it rests", x.restsBy(1), 0);
        Doc.due("eleven stops", Check.with(ELEVEN).restsBy(2), 33);
        x.rides(0);
        Doc.due("from there", x.restsBy(0), 120);
        AllPressed late = Check.with("house 3;lift at 0;person home 2;");
        late.walks(0, 2);
        late.walks(0, 0);
        late.in(0, 0);
        Doc.due("it rests, from its second on", late.restsBy(0), 32);
        for (int l : WILD) Doc.due("lift " + l, x.restsBy(l), -2);
        Doc.due("lift 2", x.restsBy(2), -2);
    }

    private static void best() {
        Doc.says(24, "BEST of a person, what 0: HOME, 1: the FLOOR where it gets OUT (NONE: it is in none).");
        AllPressed x = Check.with(FOUR_STOPS);
        int[][] want = {{12, 4}, {32, 5}, {30, -1}, {0, 4}, {2, 5}};
        for (int p = 0; p < 5; p++) {
            Doc.due("home of " + p, x.best(p, 0), want[p][0]);
            Doc.due("out of " + p, x.best(p, 1), want[p][1]);
        }
        AllPressed eleven = Check.with(ELEVEN);
        Doc.due("at the last stop", eleven.best(0, 0), 31);
        Doc.due("at the last stop", eleven.best(0, 1), 0);
        AllPressed home = Check.with("house 3;person home 0;");
        Doc.due("at home, in none", home.best(0, 0), 0);
        Doc.due("at home, in none", home.best(0, 1), -1);
        Doc.says(24, "-2: the person, what.");
        for (int i : WILD) {
            Doc.due("person " + i, x.best(i, 0), -2);
            Doc.due("what " + i, x.best(0, i), -2);
            Doc.due("what " + i + ", in none", x.best(2, i), -2);
        }
        Doc.due("person 5", x.best(5, 0), -2);
        Doc.due("what 2", x.best(0, 2), -2);
    }

    private static void homeBy() {
        Doc.says(25, "HOME of a person in a LIFT that gets OUT at a FLOOR (its own now, or a STOP to come).");
        AllPressed x = Check.with(FOUR_STOPS);
        int[] want = {130, -1, -1, 90, 12, 20, -1, 76, -1};
        for (int f = 0; f < 9; f++) Doc.due("by " + f, x.homeBy(0, f), want[f]);
        x.rides(0);
        Doc.due("its own now: when it came", x.homeBy(0, 5), 2 + 18);
        Doc.due("at home now", x.homeBy(4, 5), 2);
        AllPressed late = Check.with("house 4;lift at 0 lit 1;person home 3 in 0;person home 3;");
        late.walks(1, 3);
        late.walks(1, 0);
        late.in(1, 0);
        Doc.due("now: from its own second on", late.homeBy(0, 0), 30);
        Doc.due("then: from the lift's", late.homeBy(0, 1), 48 + 3 + 20);
        Doc.says(25, "NONE: the LIFT doesn't STOP there; -2; -5: it is in none.");
        Doc.due("it doesn't", x.homeBy(0, 8), -1);
        Doc.due("it was there, but isn't", x.homeBy(0, 4), -1);
        for (int i : WILD) {
            Doc.due("person " + i, x.homeBy(i, 0), -2);
            Doc.due("floor " + i, x.homeBy(0, i), -2);
        }
        Doc.due("person 5", x.homeBy(5, 0), -2);
        Doc.due("floor 9", x.homeBy(0, 9), -2);
        Doc.due("in none", x.homeBy(2, 6), -5);
        Doc.due("in none, floor 9", x.homeBy(2, 9), -2);
        Doc.due("in none, elsewhere", x.homeBy(2, 8), -5);
    }

    private static void all() {
        Doc.says(26, "BEST of a LIFT. -2.");
        AllPressed x = Check.with(FOUR_STOPS);
        Doc.due("four", x.all(0), 12 * 3 + 32 + 2);
        Doc.due("nobody", x.all(1), 0);
        AllPressed late = Check.with("house 12;lift at 0;foot:999;" + "person home 11 worth 99;".repeat(8));
        late.numbers(0, 1, 40);
        for (int i = 0; i < 40; i++) late.write(0, i, i % 2 == 0 ? 5011 : 5000);
        for (int k = 0; k < 60; k++) late.perform(0);
        late.in(0, 0);
        Doc.due("more than an int", late.all(0), 99L * (60L * 40 * 10989 + 10989));
        for (int l : WILD) Doc.due("lift " + l, x.all(l), -2);
        Doc.due("lift 2", x.all(2), -2);
    }

    private static void latest() {
        Doc.says(27, "The latest HOME of those in it, each by BEST (0: nobody is). -2.");
        AllPressed x = Check.with(FOUR_STOPS);
        Doc.due("of four", x.latest(0), 32);
        Doc.due("nobody", x.latest(1), 0);
        Doc.due("who is in none doesn't count", Check.with("house 9;lift at 0;person home 8;person home 1 in 0;").latest(0), 10);
        Doc.due("at home", Check.with("house 9;lift at 0 lit 3;person home 0 in 0;").latest(0), 0);
        Doc.due("all eight", Check.with("house 9;lift at 0;" + "person home 1 in 0;".repeat(7) + "person home 2 in 0;").latest(0), 20);
        for (int l : WILD) Doc.due("lift " + l, x.latest(l), -2);
        Doc.due("lift 2", x.latest(2), -2);
    }

    private static void walkers() {
        Doc.says(28, "People in it who get OUT elsewhere than at HOME by BEST, as bits. -2.");
        AllPressed x = Check.with(FOUR_STOPS);
        Doc.due("of four", x.walkers(0), 3);
        Doc.due("nobody", x.walkers(1), 0);
        AllPressed like = Check.with("house 4;lift at 0 lit 1 speed 10;person home 1 in 0;person home 0 in 0;person home 1;");
        Doc.due("like ones: out now, on foot", like.walkers(0), 1);
        Doc.due("all eight", Check.with("house 9;lift at 0;" + "person home 1 in 0;".repeat(8)).walkers(0), 255);
        for (int l : WILD) Doc.due("lift " + l, x.walkers(l), -2);
        Doc.due("lift 2", x.walkers(2), -2);
    }

    private static void waits() {
        Doc.says(29, "HOME of a person WAITING for a LIFT.");
        AllPressed x = Check.with(FOUR_STOPS);
        // With 6 lit too: 5 at 2, goes at 52; 6 at 54, goes at 94, 1 is lit; 7 at 96, goes at 136; 3 at 144, goes at 174; 1 at 178.
        Doc.due("for the first", x.waits(2, 0), 178);
        Doc.due("for the other", x.waits(2, 1), 20);
        AllPressed eleven = Check.with("house 12;lift at 11 lit 0 1 2 3 4 5 6 7 8 9 10 speed 1 stops 2 down;person home 11;");
        // To 0 at 31, goes at 33, and 11 is lit: at 44.
        Doc.due("at the last of eleven", eleven.waits(0, 0), 44);
        AllPressed home = Check.with("house 3;lift at 2;person home 0;");
        Doc.due("at home", home.waits(0, 0), 0);
        Doc.says(29, "-2; -5: it is in one.");
        for (int i : WILD) {
            Doc.due("person " + i, x.waits(i, 0), -2);
            Doc.due("lift " + i, x.waits(2, i), -2);
        }
        Doc.due("person 5", x.waits(5, 0), -2);
        Doc.due("lift 2", x.waits(2, 2), -2);
        Doc.due("in that one", x.waits(0, 0), -5);
        Doc.due("in another one", x.waits(0, 1), -5);
        Doc.due("in one, no such lift", x.waits(0, 2), -2);
        Doc.due("in one at home", Check.with("house 3;lift at 2;person home 2 in 0;").waits(0, 0), -5);
    }

    private static void choice() {
        Doc.says(30, "What makes HOME soonest of a person in none: NONE to WALK, or the LIFT to wait for, the first (to WALK first).");
        Doc.due("a lift", Check.with(FOUR_STOPS).choice(2), 1);
        AllPressed x = Check.with("house 6;lift at 0 speed 10;lift at 0 speed 9;lift at 0 speed 9;person home 3;person home 0;"
            + "person home 0 at 5;");
        Doc.due("the first of like lifts", x.choice(0), 1);
        Doc.due("at home", x.choice(1), -1);
        Doc.due("on foot", x.choice(2), -1);
        Doc.due("lift 0", Check.with("house 6;lift at 0;lift at 0;lift at 0;person home 3;").choice(0), 0);
        Doc.due("lift 2", Check.with("house 6;lift at 0;lift at 0;lift at 0 speed 2;person home 3;").choice(0), 2);
        Doc.due("like: to walk", Check.with("house 6;lift at 0 speed 10;person home 3;").choice(0), -1);
        Doc.due("no lifts", Check.with("house 6;person home 3;").choice(0), -1);
        Doc.says(30, "-2; -5: it is in one.");
        for (int p : WILD) Doc.due("person " + p, x.choice(p), -2);
        Doc.due("person 3", x.choice(3), -2);
        Doc.due("in one", Check.with(FOUR_STOPS).choice(0), -5);
        Doc.due("in one at home", Check.with("house 3;lift at 2;person home 2 in 0;").choice(0), -5);
    }
}
