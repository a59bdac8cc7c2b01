/** Promises 10 to 19, sentence by sentence. */
final class EdgesOfDeeds {
    private static final int[] WILD = {-1, Integer.MIN_VALUE, Integer.MAX_VALUE, 1 << 16, -(1 << 16)};
    private static final String THREE = "house 12;lift at 3 lit 0 11 speed 2;lift at 3 down lit 10 stops 1;lift at 11;"
        + "person home 0 in 0;person home 5 at 3;person home 11 in 2;person home 11;";

    private EdgesOfDeeds() {}

    static void run() {
        press();
        pressOff();
        rides();
        out();
        in();
        walks();
        undo();
        judge();
        judgeFull();
        perform();
        evenings();
    }

    private static void press() {
        Doc.says(10, "A FLOOR is PRESSED: how many lights are lit.");
        AllPressed x = Check.with(THREE);
        Doc.due("one more", x.press(0, 1), 3);
        Doc.due("the first of its lift", x.press(2, 0), 1);
        Doc.due("of that lift alone", x.lift(1, 2), 1024);
        Doc.due("bits", x.lift(0, 2), 2051);
        Doc.due("can be undone", x.undo(2), 0);
        Doc.due("bits", x.lift(0, 2), 2049);
        Doc.says(10, "-11, -12.");
        for (int i : WILD) {
            Doc.due("lift " + i, x.press(i, 1), -11);
            Doc.due("floor " + i, x.press(0, i), -11);
        }
        Doc.due("lift 3", x.press(3, 1), -11);
        Doc.due("floor 12", x.press(0, 12), -11);
        Doc.due("floor 32", x.press(0, 33), -11);
        Doc.due("it is lit", x.press(0, 0), -12);
        Doc.due("it is lit", x.press(0, 11), -12);
        Doc.due("its own", x.press(0, 3), -12);
        Doc.due("another lift's own", x.press(2, 3), 1);
    }

    private static void pressOff() {
        Doc.says(11, "It is PRESSED OFF: how many lights are lit.");
        AllPressed x = Check.with(THREE);
        Doc.due("one less", x.pressOff(0, 11), 1);
        Doc.due("the last", x.pressOff(1, 10), 0);
        Doc.due("rests then", x.rides(1), -12);
        Doc.due("bits", x.lift(0, 2), 1);
        Doc.due("can be undone", x.undo(2), 0);
        Doc.due("bits", x.lift(0, 2), 2049);
        Doc.due("bits", x.lift(1, 2), 1024);
        Doc.says(11, "-11, -12.");
        for (int i : WILD) {
            Doc.due("lift " + i, x.pressOff(i, 0), -11);
            Doc.due("floor " + i, x.pressOff(0, i), -11);
        }
        Doc.due("lift 3", x.pressOff(3, 0), -11);
        Doc.due("floor 12", x.pressOff(0, 12), -11);
        Doc.due("floor 32", x.pressOff(0, 32), -11);
        Doc.due("it isn't lit", x.pressOff(0, 10), -12);
        Doc.due("another lift's light", x.pressOff(1, 0), -12);
        Doc.due("its own", x.pressOff(0, 3), -12);
    }

    private static void rides() {
        Doc.says(12, "A RIDE: the FLOOR it came to.");
        AllPressed x = Check.with(THREE);
        Doc.due("up", x.rides(0), 11);
        Doc.due("second", x.lift(0, 1), 24);
        Doc.due("down then", x.rides(0), 0);
        Doc.due("floor 0", x.lift(0, 0), 0);
        Doc.due("the other way", x.rides(1), 10);
        Doc.due("it goes up now", x.lift(1, 3), 1);
        Doc.due("second", x.lift(1, 1), 22);
        Doc.due("can be undone", x.undo(3), 0);
        Doc.same("undone", State.of(x), State.of(Check.with(THREE)));
        Doc.says(12, "-11, -12.");
        for (int l : WILD) Doc.due("lift " + l, x.rides(l), -11);
        Doc.due("lift 3", x.rides(3), -11);
        Doc.due("it rests", x.rides(2), -12);
        x.rides(1);
        Doc.due("it rests then", x.rides(1), -12);
        Doc.due("on a new object", new AllPressed().rides(0), -11);
    }

    private static void out() {
        Doc.says(13, "OUT: its FLOOR.");
        AllPressed x = Check.with(THREE);
        Doc.due("at 3", x.out(0), 3);
        Doc.due("at 11", x.out(2), 11);
        Doc.due("nobody is in it", x.lift(2, 4), 0);
        Doc.due("at home", x.count(4), 1);
        Doc.due("can be undone", x.undo(1), 1);
        Doc.due("in it again", x.lift(2, 4), 4);
        Doc.says(13, "-11, -12.");
        for (int p : WILD) Doc.due("person " + p, x.out(p), -11);
        Doc.due("person 4", x.out(4), -11);
        Doc.due("in none", x.out(1), -12);
        Doc.due("out already", x.out(0), -12);
    }

    private static void in() {
        Doc.says(14, "IN: the LIFT's SECOND.");
        AllPressed x = Check.with(THREE);
        Doc.due("at first", x.in(1, 0), 0);
        Doc.due("both", x.lift(0, 4), 3);
        x.walks(3, 3);
        Doc.due("later", x.in(3, 1), 30);
        Doc.due("the lift's second", x.lift(1, 1), 30);
        Doc.due("can be undone", x.undo(1), 2);
        Doc.due("the lift's second again", x.lift(1, 1), 0);
        Doc.due("in none again", x.person(3, 2), -1);
        Doc.says(14, "-11 to -13.");
        for (int i : WILD) {
            Doc.due("person " + i, x.in(i, 0), -11);
            Doc.due("lift " + i, x.in(3, i), -11);
        }
        Doc.due("person 4", x.in(4, 0), -11);
        Doc.due("lift 3", x.in(3, 3), -11);
        Doc.due("in that one", x.in(0, 0), -12);
        Doc.due("in another one at that floor", x.in(0, 1), -12);
        Doc.due("elsewhere", x.in(3, 2), -13);
        x.walks(3, 10);
        Doc.due("a floor away", x.in(3, 2), -13);
        x.walks(3, 11);
        Doc.due("there", x.in(3, 2), 110);
    }

    private static void walks() {
        Doc.says(15, "It WALKS: its SECOND.");
        AllPressed x = Check.with(THREE);
        Doc.due("to the top", x.walks(3, 11), 110);
        Doc.due("to the bottom", x.walks(3, 0), 176);
        Doc.due("where", x.person(3, 0), 0);
        Doc.due("can be undone", x.undo(1), 1);
        Doc.due("where it was", x.person(3, 0), 11);
        Doc.due("when it came", x.person(3, 1), 110);
        Doc.says(15, "-11, -12.");
        for (int i : WILD) {
            Doc.due("person " + i, x.walks(i, 0), -11);
            Doc.due("floor " + i, x.walks(3, i), -11);
        }
        Doc.due("person 4", x.walks(4, 0), -11);
        Doc.due("floor 12", x.walks(3, 12), -11);
        Doc.due("is there", x.walks(3, 11), -12);
        Doc.due("is in one", x.walks(0, 0), -12);
        Doc.due("is in one, there", x.walks(0, 3), -12);
    }

    private static void undo() {
        Doc.says(16, "n calls (1 to 10) are UNDONE: how many still can be.");
        for (int n = 1; n <= 10; n++) {
            AllPressed x = Check.with("house 12;lift at 11;person home 0;");
            for (int f = 0; f < 11; f++) x.press(0, f);
            Doc.due("undo " + n, x.undo(n), 10 - n);
            Doc.due("lights", x.lift(0, 2), (1 << 11 - n) - 1);
            Doc.due("count", x.count(6), 10 - n);
            Doc.due("an undoing isn't undone", 10 - n > 0 ? x.undo(10 - n) : 0, 0);
            Doc.due("lights", x.lift(0, 2), 1);
        }
        Doc.says(16, "-3: n, more than can be.");
        AllPressed x = Check.with("house 12;lift at 11;person home 0;");
        Doc.due("none can be", x.undo(1), -3);
        x.press(0, 0);
        x.press(0, 1);
        for (int n : WILD) Doc.due("undo " + n, x.undo(n), -3);
        Doc.due("0", x.undo(0), -3);
        Doc.due("3 of 2", x.undo(3), -3);
        Doc.due("2 of 2", x.undo(2), 0);
        Doc.due("1 of 0", x.undo(1), -3);
        for (int f = 0; f < 11; f++) x.press(0, f);
        Doc.due("11", x.undo(11), -3);
        Doc.due("as many as there were", x.count(6), 10);
    }

    private static void judge() {
        Doc.says(17, "DEEDS, judged as if done, what 0: the first place that can't be (NONE), 1: why (0), 2: people at HOME, in none, then, as"
            + " bits, 3: lights lit in all LIFTS then.");
        AllPressed x = Check.with(THREE);
        String before = State.of(x);
        long[][] trays = {{}, {3002}, {3002, 3002}, {2000, 2000, 3000, 5105}, {2000, 2000, 3000, 5105, 4012, 3002}, {-1}, {101, 1101, 1101},
            {5311, 4032, 3003, 4032, 4031}};
        int[][] want = {{-1, 0, 0, 3}, {-1, 0, 4, 3}, {1, 2, 4, 3}, {-1, 0, 3, 1}, {4, 3, 3, 1}, {0, 1, 0, 3}, {2, 2, 0, 3}, {4, 2, 0, 3}};
        for (int i = 0; i < trays.length; i++) {
            Check.tray(x, 0, 1, trays[i]);
            for (int what = 0; what < 4; what++) Doc.due("tray " + i + " " + what, x.judge(0, what), want[i][what]);
        }
        Doc.same("nothing is done", State.of(x), before);
        Doc.due("nothing can be undone", x.count(6), 0);
        Doc.says(17, "-2: the TRAY, what; -6.");
        for (int i : WILD) {
            Doc.due("tray " + i, x.judge(i, 0), -2);
            Doc.due("what " + i, x.judge(0, i), -2);
        }
        Doc.due("tray 4", x.judge(4, 0), -2);
        Doc.due("what 4", x.judge(0, 4), -2);
        for (int tray = 1; tray < 4; tray++) Doc.due("missing", x.judge(tray, 3), -6);
    }

    private static void judgeFull() {
        AllPressed x = Check.with("house 12;lift at 0;lift at 0;lift at 0;" + "person home 0 in 2;".repeat(7) + "person home 0;");
        long[] deeds = new long[40];
        for (int i = 0; i < 40; i++) {
            if (i < 7) deeds[i] = 3000 + i;
            else if (i < 18) deeds[i] = i - 6;
            else if (i < 29) deeds[i] = 100 + i - 17;
            else deeds[i] = 200 + i - 28;
        }
        Check.tray(x, 3, 1, deeds);
        Doc.says(17, "DEEDS, judged as if done, what 0: the first place that can't be (NONE), 1: why (0), 2: people at HOME, in none, then, as"
            + " bits, 3: lights lit in all LIFTS then.");
        Doc.due("all forty", x.judge(3, 0), -1);
        Doc.due("all are home", x.judge(3, 2), 255);
        Doc.due("all lights", x.judge(3, 3), 33);
        x.write(3, 39, 210);
        Doc.due("the last can't be", x.judge(3, 0), 39);
        Doc.due("the last can't be", x.judge(3, 1), 2);
        Doc.due("lights without it", x.judge(3, 3), 32);
        Doc.due("performed till then", x.perform(3), 39);
        Doc.due("lights", x.count(5), 32);
        Doc.due("home", x.count(4), 8);
    }

    private static void perform() {
        Doc.says(18, "They are done, till one can't be: how many.");
        AllPressed x = Check.with(THREE);
        String before = State.of(x);
        Check.tray(x, 3, 2, 2000, 3000, 2000, 2000, 3002);
        Doc.due("three", x.perform(3), 3);
        Doc.due("none behind it", x.person(2, 2), 2);
        Doc.due("those ahead", x.lift(0, 0), 0);
        Doc.due("out at 11", x.person(0, 0), 11);
        Doc.due("one call", x.count(6), 1);
        Doc.due("undone as a whole", x.undo(1), 0);
        Doc.same("undone", State.of(x), before);
        Check.tray(x, 3, 2, 2002, 2000);
        Doc.due("the first can't be", x.perform(3), 0);
        Doc.same("nothing is done", State.of(x), before);
        Doc.due("nothing can be undone", x.count(6), 0);
        x.numbers(3, 0, 0);
        Doc.due("none at all", x.perform(3), 0);
        Doc.due("nothing can be undone", x.count(6), 0);
        Check.tray(x, 3, 3, 3002);
        Doc.due("one, all", x.perform(3), 1);
        Doc.due("one call", x.count(6), 1);
        Check.tray(x, 3, 0, 10, 4, 120, 121, 5, 200);
        Doc.due("of 8 bits: 200 is below 0", x.perform(3), 2);
        Doc.says(18, "-2; -6.");
        for (int tray : WILD) Doc.due("tray " + tray, x.perform(tray), -2);
        Doc.due("tray 4", x.perform(4), -2);
        for (int tray = 0; tray < 3; tray++) Doc.due("missing", x.perform(tray), -6);
    }

    private static void evenings() {
        Doc.says(19, "EVENINGS: how many could be.");
        for (int times = 1; times <= 40; times++) {
            AllPressed x = Check.with(THREE);
            AllPressed y = Check.with(THREE);
            int done = ByDeeds.evenings(y, 1000 - 77 * times, times);
            Doc.due("times " + times, x.evenings(1000 - 77 * times, times), done);
            Doc.same("state", State.of(x), State.of(y));
            Doc.due("one call, if some", x.count(6), done > 0 ? 1 : 0);
            if (done > 0) Doc.due("undone", x.undo(1), 0);
            Doc.same("undone", State.of(x), State.of(Check.with(THREE)));
        }
        int[] once = new int[2];
        for (int seed = 0; seed < 60; seed++) {
            AllPressed x = Check.with(THREE);
            int done = x.evenings(seed, 1);
            once[done]++;
            Doc.due("one time, done or not", x.count(6), done);
        }
        Doc.due("some could be, some couldn't", once[0] > 0 && once[1] > 0 ? 1 : 0, 1);
        Doc.says(19, "-3: how many times; -5: no LIFTS, no people.");
        AllPressed x = Check.with(THREE);
        for (int times : WILD) Doc.due("times " + times, x.evenings(1, times), -3);
        Doc.due("0 times", x.evenings(1, 0), -3);
        Doc.due("41 times", x.evenings(1, 41), -3);
        Doc.due("no lifts", Check.with("house 2;person home 0;").evenings(1, 1), -5);
        Doc.due("no people", Check.with("house 2;lift at 0;").evenings(1, 40), -5);
        Doc.due("neither", new AllPressed().evenings(1, 1), -5);
        Doc.due("neither, 41 times", new AllPressed().evenings(1, 41), -3);
    }
}
