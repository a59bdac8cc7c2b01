/** Promises 10 to 19: deeds, undone, judged, done from a tray and drawn. */
public final class DeedTests {
    private static final String TWO_LIFTS = "house 6;lift at 2 lit 4 0 speed 5;lift at 3 stops 1;"
        + "person home 0 in 0;person home 5 at 2;person home 1 at 3;";

    public static void main(String[] args) {
        press();
        pressOff();
        rides();
        out();
        in();
        walks();
        undo();
        undoForgets();
        judge();
        judgeCodes();
        perform();
        evenings();
        Check.end();
    }

    private static void press() {
        AllPressed x = Check.with(TWO_LIFTS);
        Check.due("10: press", x.press(0, 5), 3);
        Check.due("10: bits", x.lift(0, 2), 49);
        Check.due("10: of that lift alone", x.press(1, 5), 1);
        Check.due("10: it is lit", x.press(0, 4), -12);
        Check.due("10: its own", x.press(0, 2), -12);
        Check.due("10: no such floor", x.press(0, 6), -11);
        Check.due("10: no such floor", x.press(0, -1), -11);
        Check.due("10: no such lift", x.press(2, 0), -11);
        Check.due("10: no such lift", x.press(-1, 0), -11);
        Check.due("10: refused calls change nothing", x.count(5), 4);
        Check.due("10: refused calls can't be undone", x.count(6), 2);
    }

    private static void pressOff() {
        AllPressed x = Check.with(TWO_LIFTS);
        Check.due("11: pressOff", x.pressOff(0, 4), 1);
        Check.due("11: bits", x.lift(0, 2), 1);
        Check.due("11: it isn't lit", x.pressOff(0, 4), -12);
        Check.due("11: its own", x.pressOff(0, 2), -12);
        Check.due("11: the last", x.pressOff(0, 0), 0);
        Check.due("11: no such floor", x.pressOff(0, 6), -11);
        Check.due("11: no such lift", x.pressOff(2, 0), -11);
        Check.due("11: undoable", x.count(6), 2);
    }

    private static void rides() {
        AllPressed x = Check.with("house 6;lift at 2 lit 4 1 speed 5;lift at 3;stop : lit * 10 + floor;"
            + "person home 0 in 0;person home 5 at 2;");
        Check.due("12: it rides", x.rides(0), 4);
        Check.due("12: second", x.lift(0, 1), 10 + 24);
        Check.due("12: the light is out", x.lift(0, 2), 2);
        Check.due("12: who is in it came then", x.person(0, 1), 10);
        Check.due("12: where it came", x.person(0, 0), 4);
        Check.due("12: who isn't stays", x.person(1, 0), 2);
        Check.due("12: goes up still", x.lift(0, 3), 1);
        Check.due("12: the other way", x.rides(0), 1);
        Check.due("12: goes down", x.lift(0, 3), 0);
        Check.due("12: second", x.lift(0, 1), 34 + 15 + 11);
        Check.due("12: rests", x.rides(0), -12);
        Check.due("12: rests", x.rides(1), -12);
        Check.due("12: no such lift", x.rides(2), -11);
        Check.due("12: no such lift", x.rides(-1), -11);
        x.press(0, 0);
        x.press(0, 2);
        Check.due("12: down first", x.rides(0), 0);
        Check.due("12: up then", x.rides(0), 2);
        Check.due("12: up", x.lift(0, 3), 1);
    }

    private static void out() {
        AllPressed x = Check.with(TWO_LIFTS);
        x.rides(0);
        Check.due("13: out", x.out(0), 4);
        Check.due("13: in none", x.person(0, 2), -1);
        Check.due("13: its second", x.person(0, 1), 10);
        Check.due("13: in none", x.out(0), -12);
        Check.due("13: in none", x.out(1), -12);
        Check.due("13: no such person", x.out(3), -11);
        Check.due("13: no such person", x.out(-1), -11);
        x.rides(0);
        Check.due("13: it stays there", x.person(0, 0), 4);
    }

    private static void in() {
        AllPressed x = Check.with(TWO_LIFTS);
        Check.due("14: in", x.in(1, 0), 0);
        Check.due("14: who", x.lift(0, 4), 3);
        Check.due("14: in one", x.in(1, 1), -12);
        Check.due("14: the lift is elsewhere", x.in(2, 0), -13);
        Check.due("14: no such person", x.in(3, 0), -11);
        Check.due("14: no such lift", x.in(2, 2), -11);
        Check.due("14: no such lift ahead of being in one", x.in(1, 2), -11);
        x.walks(2, 5);
        x.walks(2, 3);
        Check.due("14: the lift's second is not below", x.in(2, 1), 32);
        Check.due("14: lift", x.lift(1, 1), 32);
        Check.due("14: the person's second stays", x.person(2, 1), 32);
        x.rides(0);
        x.out(1);
        Check.due("14: a later lift's second stays", x.in(1, 0), 18);
        Check.due("14: the person's second stays below", x.person(1, 1), 10);
    }

    private static void walks() {
        AllPressed x = Check.with(TWO_LIFTS);
        Check.due("15: up", x.walks(1, 5), 30);
        Check.due("15: where", x.person(1, 0), 5);
        Check.due("15: down, more", x.walks(1, 0), 60);
        Check.due("15: is there", x.walks(1, 0), -12);
        Check.due("15: is in one", x.walks(0, 0), -12);
        Check.due("15: no such person", x.walks(3, 0), -11);
        Check.due("15: no such floor", x.walks(1, 6), -11);
        Check.due("15: no such floor ahead of being in one", x.walks(0, 6), -11);
    }

    private static void undo() {
        AllPressed x = Check.with(TWO_LIFTS);
        x.press(0, 5);
        x.rides(0);
        x.out(0);
        x.walks(0, 3);
        x.in(0, 1);
        Check.due("16: more than can be", x.undo(6), -3);
        Check.due("16: n", x.undo(0), -3);
        Check.due("16: n", x.undo(-1), -3);
        Check.due("16: n", x.undo(11), -3);
        Check.due("16: one", x.undo(1), 4);
        Check.due("16: the lift's second", x.lift(1, 1), 0);
        Check.due("16: the person is out", x.person(0, 2), -1);
        Check.due("16: two", x.undo(2), 2);
        Check.due("16: in again", x.person(0, 2), 0);
        Check.due("16: floor", x.person(0, 0), 4);
        Check.due("16: others can be done then", x.pressOff(0, 5), 1);
        Check.due("16: that, too, is undone", x.undo(1), 2);
        Check.due("16: all", x.undo(2), 0);
        Check.due("16: lights", x.lift(0, 2), 17);
        Check.due("16: floor", x.lift(0, 0), 2);
        Check.due("16: none", x.undo(1), -3);
    }

    private static void undoForgets() {
        AllPressed x = Check.with("house 12;lift at 0;lift at 11;person home 3;");
        for (int f = 1; f < 12; f++) x.press(0, f);
        x.press(1, 0);
        x.press(1, 0);
        Check.due("16: ten at most", x.count(6), 10);
        Check.due("16: seven", x.undo(7), 3);
        Check.due("16: six are left", x.lift(0, 2), 0b11111 << 1);
        x.walks(0, 5);
        Check.due("16: four", x.undo(4), 0);
        Check.due("16: the eldest are forgotten", x.lift(0, 2), 0b110);
        Check.due("16: the person is back", x.person(0, 1), 0);
    }

    private static void judge() {
        AllPressed x = Check.with(TWO_LIFTS);
        Check.tray(x, 0, 1, 3000, 5000, 5105, 2000, 105, 1104, 4021);
        Check.due("17: the first place", x.judge(0, 0), 5);
        Check.due("17: why", x.judge(0, 1), 2);
        Check.due("17: at home then", x.judge(0, 2), 3);
        Check.due("17: lights then", x.judge(0, 3), 2);
        Check.due("17: judged alone", x.count(4), 0);
        Check.due("17: nothing to undo", x.count(6), 0);
        Check.tray(x, 3, 3);
        Check.due("17: no deeds", x.judge(3, 0), -1);
        Check.due("17: no deeds", x.judge(3, 1), 0);
        Check.due("17: no deeds", x.judge(3, 3), 2);
        Check.due("17: no such tray", x.judge(4, 0), -2);
        Check.due("17: no such tray", x.judge(-1, 0), -2);
        Check.due("17: no such what", x.judge(0, 4), -2);
        Check.due("17: no such what", x.judge(0, -1), -2);
        Check.due("17: no such what ahead of missing", x.judge(1, 4), -2);
        Check.due("17: missing", x.judge(1, 0), -6);
    }

    private static void whyIs(long deed, long want) {
        AllPressed x = Check.with(TWO_LIFTS);
        Check.tray(x, 2, 3, deed);
        Check.due("17: why of " + deed, x.judge(2, 1), want);
        Check.due("17: place of " + deed, x.judge(2, 0), want == 0 ? -1 : 0);
        Check.due("18: perform of " + deed, x.perform(2), want == 0 ? 1 : 0);
        Check.due("18: undoable by " + deed, x.count(6), want == 0 ? 1 : 0);
    }

    private static void judgeCodes() {
        long[][] want = {
            {1, 0}, {2, 2}, {4, 2}, {6, 1}, {99, 1}, {100, 0}, {103, 2}, {200, 1}, {299, 1}, {300, 1}, {999, 1},
            {1004, 0}, {1001, 2}, {1002, 2}, {1006, 1}, {1104, 2}, {1200, 1}, {1300, 1},
            {2000, 0}, {2001, 2}, {2002, 1}, {2999, 1}, {3000, 0}, {3001, 2}, {3003, 1}, {3999, 1},
            {4000, 2}, {4001, 2}, {4002, 1}, {4010, 0}, {4011, 3}, {4021, 0}, {4020, 3}, {4030, 1}, {4100, 1}, {4110, 1},
            {5000, 2}, {5100, 0}, {5102, 2}, {5106, 1}, {5200, 0}, {5300, 1}, {5799, 1}, {5800, 1}, {5999, 1},
            {6000, 1}, {-1, 1}, {-1000, 1}, {(1L << 32) + 2000, 1}, {Long.MIN_VALUE, 1}, {Long.MAX_VALUE, 1}};
        for (long[] row : want) whyIs(row[0], row[1]);
    }

    private static void perform() {
        AllPressed x = Check.with(TWO_LIFTS);
        Check.tray(x, 0, 1, 3000, 5000, 5105, 2000, 105, 1104, 4021);
        Check.due("18: till one can't be", x.perform(0), 5);
        Check.due("18: at home", x.count(4), 2);
        Check.due("18: none behind it", x.person(2, 2), -1);
        Check.due("18: one call", x.undo(1), 0);
        Check.due("18: undone as a whole", x.count(3), 1);
        Check.due("18: lifts, too", x.lift(0, 0), 2);
        Check.tray(x, 0, 2, 2001, 2000);
        Check.due("18: none", x.perform(0), 0);
        Check.due("18: none to undo", x.count(6), 0);
        Check.due("18: no such tray", x.perform(4), -2);
        Check.due("18: missing", x.perform(1), -6);
    }

    /** Another object does, call by call, what the draws tell. */
    private static void evenings() {
        AllPressed x = Check.with(TWO_LIFTS);
        AllPressed y = Check.with(TWO_LIFTS);
        int drawn = 77;
        int done = 0;
        for (int i = 0; i < 40; i++) {
            int[] d = new int[3];
            drawn = step(drawn);
            int kind = (drawn >>> 16) % 6;
            int draws = kind == 0 || kind == 1 || kind == 3 ? 1 : 2;
            for (int k = 0; k < draws; k++) {
                drawn = step(drawn);
                d[k] = drawn >>> 16;
            }
            int answer;
            if (kind < 2) answer = y.rides(d[0] % 2);
            else if (kind == 2) answer = y.press(d[0] % 2, d[1] % 6);
            else if (kind == 3) answer = y.out(d[0] % 3);
            else if (kind == 4) answer = y.in(d[0] % 3, d[1] % 2);
            else answer = y.walks(d[0] % 3, d[1] % 6);
            if (answer >= 0) done++;
        }
        Check.due("19: how many could be", x.evenings(77, 40), done);
        for (int what = 0; what < 7; what++) {
            for (int l = 0; l < 2; l++) Check.due("19: lift " + l + " " + what, x.lift(l, what), y.lift(l, what));
            for (int p = 0; p < 3; p++) Check.due("19: person " + p + " " + what, x.person(p, what), y.person(p, what));
        }
        Check.due("19: one call", x.count(6), 1);
        x.undo(1);
        Check.due("19: undone", x.person(0, 2), 0);
        Check.due("19: times", x.evenings(1, 0), -3);
        Check.due("19: times", x.evenings(1, 41), -3);
        Check.due("19: times ahead of no lifts", new AllPressed().evenings(1, 41), -3);
        Check.due("19: no lifts", Check.with("house 2;person home 0;").evenings(1, 1), -5);
        Check.due("19: no people", Check.with("house 2;lift at 0;").evenings(1, 1), -5);
        AllPressed still = Check.with("house 2;lift at 0;person home 0 in 0;");
        int seed = 0;
        for (int i = 0; i < 100 && (step(seed) >>> 16) % 6 > 1; i++) seed++;
        Check.due("19: none could be", still.evenings(seed, 1), 0);
        Check.due("19: none to undo", still.count(6), 0);
    }

    private static int step(int x) {
        return 1103515245 * x + 12345;
    }
}
