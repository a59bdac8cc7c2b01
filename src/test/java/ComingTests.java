/** Promises 20 to 30: stops to come, and whether to walk. */
public final class ComingTests {
    /** Lift 0: up to 5 and 7, then down to 3 and 0; lift 1 is below, resting. */
    private static final String FOUR_STOPS = "house 9;lift at 4 lit 0 3 5 7 speed 2;lift at 1 stops 0 speed 1;"
        + "stop : lit * 10;person home 2 in 0 worth 3;person home 8 in 0;person home 1 at 6;person home 4 in 0 worth 7;"
        + "person home 5 in 0;";

    public static void main(String[] args) {
        stops();
        comes();
        best();
        homeBy();
        all();
        waits();
        choice();
        Check.end();
    }

    private static void stops() {
        AllPressed x = Check.with(FOUR_STOPS);
        Check.due("20: stops", x.stops(0), 4);
        Check.due("20: rests", x.stops(1), 0);
        Check.due("20: no such lift", x.stops(2), -2);
        int[] want = {5, 7, 3, 0, -1, -1};
        for (int k = 0; k < want.length; k++) Check.due("21: stop " + k, x.stopAt(0, k), want[k]);
        Check.due("21: far", x.stopAt(0, Integer.MAX_VALUE), -1);
        Check.due("21: rests", x.stopAt(1, 0), -1);
        Check.due("21: below 0", x.stopAt(0, -1), -3);
        Check.due("21: no such lift first", x.stopAt(2, -1), -2);
        AllPressed y = Check.with("house 9;lift at 4 lit 0 3 5 7 down;");
        int[] down = {3, 0, 5, 7};
        for (int k = 0; k < down.length; k++) Check.due("21: down " + k, y.stopAt(0, k), down[k]);
    }

    /** Comes to 5 at 2, goes at 42; to 7 at 46, goes at 76; to 3 at 84, goes at 104; to 0 at 110, goes at 120. */
    private static void comes() {
        AllPressed x = Check.with(FOUR_STOPS);
        int[] want = {110, -1, -1, 84, -1, 2, -1, 46, -1};
        for (int f = 0; f < want.length; f++) Check.due("22: comes to " + f, x.comes(0, f), want[f]);
        Check.due("22: no such floor", x.comes(0, 9), -2);
        Check.due("22: no such floor", x.comes(0, -1), -2);
        Check.due("22: no such lift", x.comes(2, 0), -2);
        Check.due("23: rests by", x.restsBy(0), 120);
        Check.due("23: rests now", x.restsBy(1), 0);
        Check.due("23: no such lift", x.restsBy(2), -2);
        x.rides(0);
        Check.due("22: from its second on", x.comes(0, 7), 46);
        Check.due("22: it was there", x.comes(0, 5), -1);
        Check.due("23: the same", x.restsBy(0), 120);
    }

    private static void best() {
        AllPressed x = Check.with(FOUR_STOPS);
        int[][] want = {{12, 4}, {32, 5}, {30, -1}, {0, 4}, {2, 5}};
        for (int p = 0; p < want.length; p++) {
            Check.due("24: best of " + p, x.best(p, 0), want[p][0]);
            Check.due("24: out of " + p, x.best(p, 1), want[p][1]);
        }
        Check.due("24: no such person", x.best(5, 0), -2);
        Check.due("24: no such what", x.best(0, 2), -2);
        Check.due("24: no such what", x.best(0, -1), -2);
        Check.due("24: no such what, in none", x.best(2, 2), -2);
        AllPressed y = Check.with("house 4;lift at 0 lit 1 2 3 speed 10 stops 0;person home 3 in 0;person home 0 in 0;");
        Check.due("24: of like ones the first", y.best(0, 1), 0);
        y.walks(1, 2);
        y.out(1);
        y.walks(1, 2);
        y.walks(1, 0);
        y.in(1, 0);
        Check.due("24: out now at its own second", y.best(0, 0), 30);
        Check.due("24: later ones wait for the lift's", y.comes(0, 1), 42);
        y.rides(0);
        Check.due("24: from when it came", y.best(0, 0), 62);
    }

    private static void homeBy() {
        AllPressed x = Check.with(FOUR_STOPS);
        int[] want = {110 + 20, -1, -1, 84 + 6, 12, 2 + 18, -1, 46 + 30, -1};
        for (int f = 0; f < want.length; f++) Check.due("25: by " + f, x.homeBy(0, f), want[f]);
        Check.due("25: no such person", x.homeBy(5, 0), -2);
        Check.due("25: no such floor", x.homeBy(0, 9), -2);
        Check.due("25: no such floor ahead of in none", x.homeBy(2, 9), -2);
        Check.due("25: in none", x.homeBy(2, 1), -5);
        Check.due("25: in none at home", Check.with("house 2;person home 0;").homeBy(0, 0), -5);
    }

    private static void all() {
        AllPressed x = Check.with(FOUR_STOPS);
        Check.due("26: all", x.all(0), 12 * 3 + 32 + 0 + 2);
        Check.due("26: nobody", x.all(1), 0);
        Check.due("26: no such lift", x.all(2), -2);
        Check.due("27: latest", x.latest(0), 32);
        Check.due("27: nobody", x.latest(1), 0);
        Check.due("27: no such lift", x.latest(-1), -2);
        Check.due("28: walkers", x.walkers(0), 0b00011);
        Check.due("28: nobody", x.walkers(1), 0);
        Check.due("28: no such lift", x.walkers(2), -2);
        AllPressed y = Check.with("house 12;lift at 0;foot : 999;" + "person home 11 in 0 worth 99;".repeat(8));
        Check.due("26: much", y.all(0), 8L * 99 * 999 * 11);
        Check.due("28: all of them", y.walkers(0), 255);
    }

    private static void waits() {
        AllPressed x = Check.with(FOUR_STOPS);
        // With 6 lit too: 5 at 2, goes at 52; 6 at 54, goes at 94, 1 is lit; 7 at 96 (4 lit), goes at 136;
        // 3 at 144 (3 lit), goes at 174; 1 at 178.
        Check.due("29: waits", x.waits(2, 0), 178);
        // With 6 lit: 6 at 5, one lit: goes at 15; then 1 at 20.
        Check.due("29: for the other", x.waits(2, 1), 20);
        Check.due("29: no such person", x.waits(5, 0), -2);
        Check.due("29: no such lift", x.waits(2, 2), -2);
        Check.due("29: no such lift ahead of in one", x.waits(0, 2), -2);
        Check.due("29: it is in one", x.waits(0, 1), -5);
        AllPressed y = Check.with("house 6;lift at 2 lit 0 down;lift at 3 lit 4 5;person home 4 at 2;person home 5 at 5;");
        // It is there already: down to 0 at 6, goes at 14; up to 4 at 26.
        Check.due("29: it is there", y.waits(0, 0), 26);
        // 4 at 3, goes at 11; 5 at 14, goes at 22; 2 at 31, goes at 39, 4 is lit again; 4 at 45.
        Check.due("29: home is lit behind its being there", y.waits(0, 1), 45);
        y.walks(0, 3);
        y.walks(0, 2);
        Check.due("29: not below the person's second", y.waits(0, 0), 16 + 6 + 8 + 12);
        Check.due("29: at home already", y.waits(1, 0), 0);
        y.walks(1, 4);
        y.walks(1, 5);
        Check.due("29: home is its second", y.waits(1, 0), 16);
        Check.due("29: nothing is changed", y.lift(0, 2), 1);
    }

    private static void choice() {
        AllPressed x = Check.with(FOUR_STOPS);
        Check.due("30: the lift", x.choice(2), 1);
        Check.due("30: in one", x.choice(0), -5);
        Check.due("30: no such person", x.choice(5), -2);
        AllPressed y = Check.with("house 6;lift at 0 speed 10;lift at 0 speed 9;lift at 0 speed 9;"
            + "person home 3;person home 0;person home 0 at 5;");
        Check.due("30: the first of like ones", y.choice(0), 1);
        Check.due("30: at home", y.choice(1), -1);
        Check.due("30: walks", y.choice(2), -1);
        AllPressed z = Check.with("house 6;lift at 0 speed 10;person home 3;");
        Check.due("30: to walk first", z.choice(0), -1);
        Check.due("30: no lifts", Check.with("house 6;person home 3;").choice(0), -1);
    }
}
