import java.util.function.Supplier;

/** Promises 31 to 40, sentence by sentence. */
final class EdgesOfLights {
    private static final int[] WILD = {-1, Integer.MIN_VALUE, Integer.MAX_VALUE, 1 << 16, -(1 << 16)};
    private static final long NO_COST = -2000000000;

    /** The best sum of lift 0 is 33 * 2 + 13. */
    private static final String FIVE_LIT = "house 6;lift at 0 lit 1 2 3 4 5;lift at 2;"
        + "person home 4 in 0 worth 2;person home 2 in 0;person home 5;";

    private static final String FULL = "house 12;lift at 11 lit 0 1 2 3 4 5 6 7 8 9 10 speed 1 stops 3;lift at 0 speed 4;lift at 0 down;"
        + "foot:4+up*3;person home 0 in 0 worth 2;person home 5 in 0;person home 10 in 0 worth 9;person home 7 in 0;"
        + "person home 3 in 1;person home 11 in 1 worth 99;person home 2;person home 9;";

    private EdgesOfLights() {}

    static void run() {
        least();
        fairest();
        costs();
        worstLight();
        bestLight();
        boy();
        parting();
        partingSums();
        rest();
        away();
        nearest();
    }

    private static AllPressed full() {
        return Check.with(FULL);
    }

    private static void least() {
        Doc.says(31, "LEAST, what 0: BEST then, 1: KEPT lights, as bits.");
        AllPressed x = Check.with(FIVE_LIT);
        Doc.due("best then", x.least(0, 0), 44);
        Doc.due("kept", x.least(0, 1), 16);
        Doc.due("nobody, none lit", x.least(1, 0), 0);
        Doc.due("nobody, none lit", x.least(1, 1), 0);
        Doc.due("nobody", Check.with("house 6;lift at 0 lit 1 2;").least(0, 1), 0);
        Supplier<AllPressed> made = EdgesOfLights::full;
        long[] want = new ByDeeds(made).kept(0, false);
        Doc.due("all eleven are weighed", full().least(0, 0), want[0]);
        Doc.due("all eleven are weighed", full().least(0, 1), want[1]);
        Doc.due("none is lit", full().least(1, 0), 21 + 77 * 99);
        Doc.due("floor 0 may be kept", Check.with("house 3;lift at 2 lit 0 1 speed 1;person home 0 in 0;").least(0, 1), 1);
        Doc.due("floor 11 may be kept", Check.with("house 12;lift at 2 lit 11 10;person home 11 in 0;").least(0, 1), 2048);
        Doc.says(31, "-2: the LIFT, what.");
        for (int i : WILD) {
            Doc.due("lift " + i, x.least(i, 0), -2);
            Doc.due("what " + i, x.least(0, i), -2);
        }
        Doc.due("lift 2", x.least(2, 0), -2);
        Doc.due("what 2", x.least(0, 2), -2);
    }

    private static void fairest() {
        Doc.says(32, "FAIREST, what 0: the latest HOME then (0: nobody is in it), 1: KEPT lights, as bits.");
        AllPressed x = Check.with(FIVE_LIT);
        Doc.due("the latest then", x.fairest(0, 0), 19);
        Doc.due("kept", x.fairest(0, 1), 8);
        Doc.due("nobody", x.fairest(1, 0), 0);
        Doc.due("nobody", Check.with("house 6;lift at 0 lit 1 2;").fairest(0, 0), 0);
        Doc.due("nobody", Check.with("house 6;lift at 0 lit 1 2;").fairest(0, 1), 0);
        Supplier<AllPressed> made = EdgesOfLights::full;
        long[] want = new ByDeeds(made).kept(0, true);
        Doc.due("all eleven are weighed", full().fairest(0, 0), want[0]);
        Doc.due("all eleven are weighed", full().fairest(0, 1), want[1]);
        Doc.due("floor 0 may be kept", Check.with("house 3;lift at 2 lit 0 1 speed 1;person home 0 in 0;").fairest(0, 1), 1);
        Doc.due("floor 0 isn't kept for nothing", Check.with("house 3;lift at 2 lit 0;person home 2 in 0;").fairest(0, 1), 0);
        Doc.says(32, "-2.");
        for (int i : WILD) {
            Doc.due("lift " + i, x.fairest(i, 0), -2);
            Doc.due("what " + i, x.fairest(0, i), -2);
        }
        Doc.due("lift 2", x.fairest(2, 0), -2);
        Doc.due("what 2", x.fairest(0, 2), -2);
    }

    private static void costs() {
        Doc.says(33, "By how much BEST of a LIFT is less without a light (below 0: more).");
        AllPressed x = Check.with(FIVE_LIT);
        Doc.due("less", x.costs(0, 1), 79 - 58);
        Doc.due("like", x.costs(0, 5), 0);
        Doc.due("more", Check.with("house 6;lift at 0 lit 4;person home 4 in 0 worth 2;").costs(0, 4), -56);
        ByDeeds tried = new ByDeeds(EdgesOfLights::full);
        for (int f = 0; f < 11; f++) Doc.due("without " + f, full().costs(0, f), full().all(0) - tried.turned(0, f));
        Doc.says(33, "-2000000000: no such LIFT, FLOOR, it isn't lit.");
        for (int i : WILD) {
            Doc.due("lift " + i, x.costs(i, 1), NO_COST);
            Doc.due("floor " + i, x.costs(0, i), NO_COST);
        }
        Doc.due("lift 2", x.costs(2, 1), NO_COST);
        Doc.due("lift 3", full().costs(3, 1), NO_COST);
        Doc.due("floor 6", x.costs(0, 6), NO_COST);
        Doc.due("floor 33", x.costs(0, 33), NO_COST);
        Doc.due("its own", x.costs(0, 0), NO_COST);
        Doc.due("it isn't lit", x.costs(1, 1), NO_COST);
    }

    private static void worstLight() {
        Doc.says(34, "The light without which alone BEST of a LIFT is least, if that is less than now, the lowest.");
        Doc.due("1", Check.with(FIVE_LIT).worstLight(0), 1);
        Doc.due("the lowest of like ones", Check.with("house 9;lift at 0 lit 2 4 8 stops 9;foot:99;person home 8 in 0;").worstLight(0), 2);
        Doc.due("floor 0", Check.with("house 9;lift at 1 lit 0 8 stops 9 down;foot:99;person home 8 in 0;").worstLight(0), 0);
        Doc.due("floor 11", Check.with("house 12;lift at 1 lit 11 0;foot:99;person home 0 in 0;").worstLight(0), 11);
        ByDeeds tried = new ByDeeds(EdgesOfLights::full);
        Doc.due("of eleven", full().worstLight(0), tried.toTurn(0, 2047));
        Doc.says(34, "NONE: none; -2.");
        AllPressed x = Check.with(FIVE_LIT);
        Doc.due("none is lit", x.worstLight(1), -1);
        Doc.due("like, not less", Check.with("house 6;lift at 0 lit 4 5;person home 4 in 0;").worstLight(0), -1);
        Doc.due("more", Check.with("house 6;lift at 0 lit 4;person home 4 in 0;").worstLight(0), -1);
        for (int l : WILD) Doc.due("lift " + l, x.worstLight(l), -2);
        Doc.due("lift 2", x.worstLight(2), -2);
    }

    private static void bestLight() {
        Doc.says(35, "The FLOOR, not lit, nor its own, by which, PRESSED, BEST of a LIFT is least, if that is less than now, the lowest.");
        Doc.due("home", Check.with("house 9;lift at 2 lit 8;person home 6 in 0;").bestLight(0), 6);
        Doc.due("the lowest of like ones", Check.with("house 7;lift at 3;foot:10;person home 0 in 0;person home 6 in 0;").bestLight(0), 0);
        Doc.due("floor 11", Check.with("house 12;lift at 0;person home 11 in 0;").bestLight(0), 11);
        ByDeeds tried = new ByDeeds(EdgesOfLights::full);
        for (int l = 0; l < 3; l++) Doc.due("of lift " + l, full().bestLight(l), tried.toTurn(l, tried.unlit(l)));
        Doc.says(35, "NONE: none; -2.");
        AllPressed x = Check.with(FIVE_LIT);
        Doc.due("all are lit", x.bestLight(0), -1);
        Doc.due("nobody", x.bestLight(1), -1);
        Doc.due("at home", Check.with("house 4;lift at 0;person home 0 in 0;").bestLight(0), -1);
        Doc.due("like, not less", Check.with("house 7;lift at 0;foot:3;person home 4 in 0;").bestLight(0), -1);
        for (int l : WILD) Doc.due("lift " + l, x.bestLight(l), -2);
        Doc.due("lift 2", x.bestLight(2), -2);
    }

    private static void boy() {
        Doc.says(36, "MEAN of a BOY, what 0: the number above, 1: below.");
        AllPressed x = Check.with("house 4;lift at 0;lift at 2 lit 0 1 3;person home 3 in 0;stop:floor;");
        // Now 30. By 1: 23, 2: 16, 3: 9; 1 and 2: 17, 1 and 3: 10, 2 and 3: 11; all: 1 at 3, 2 at 7, 3 at 12.
        long[][] want = {{0, 1}, {-14, 1}, {-52, 3}, {-18, 1}};
        for (int n = 0; n < 4; n++) {
            Doc.due("above of " + n, x.boy(0, n, 0), want[n][0]);
            Doc.due("below of " + n, x.boy(0, n, 1), want[n][1]);
        }
        Doc.due("all are lit, none", x.boy(1, 0, 0), 0);
        Doc.due("all are lit, none", x.boy(1, 0, 1), 1);
        AllPressed low = Check.with("house 5;lift at 0;person home 2 in 0;");
        Doc.due("in lowest terms, below 0", low.boy(0, 1, 0), -13);
        Doc.due("in lowest terms, below 0", low.boy(0, 1, 1), 2);
        Doc.due("nobody: 0", Check.with("house 12;lift at 3;").boy(0, 5, 0), 0);
        Doc.due("nobody: by 1", Check.with("house 12;lift at 3;").boy(0, 5, 1), 1);
        for (int l = 1; l < 3; l++) {
            for (int n = 0; n <= 11; n++) {
                long[] mean = new ByDeeds(EdgesOfLights::full).boy(l, n);
                Doc.due("above of " + n, full().boy(l, n, 0), mean[0]);
                Doc.due("below of " + n, full().boy(l, n, 1), mean[1]);
            }
        }
        Doc.says(36, "-2000000000: the LIFT, what; n isn't 0 to 11, more than there are such FLOORS.");
        for (int i : WILD) {
            Doc.due("lift " + i, x.boy(i, 0, 0), NO_COST);
            Doc.due("n " + i, x.boy(0, i, 0), NO_COST);
            Doc.due("what " + i, x.boy(0, 0, i), NO_COST);
        }
        Doc.due("lift 2", x.boy(2, 0, 0), NO_COST);
        Doc.due("what 2", x.boy(0, 0, 2), NO_COST);
        Doc.due("4 of 3", x.boy(0, 4, 0), NO_COST);
        Doc.due("1 of 0", x.boy(1, 1, 0), NO_COST);
        Doc.due("12", full().boy(1, 12, 0), NO_COST);
        Doc.due("12, below", full().boy(1, 12, 1), NO_COST);
    }

    private static void parting() {
        Doc.says(37, "PARTING, what 0: the sum, 1: FLOORS of the first one, as bits.");
        AllPressed x = Check.with("house 8;lift at 3 lit 6 1;lift at 3 speed 1 stops 0 down lit 0;lift at 4;"
            + "person home 7 at 3;person home 0 in 0 worth 3;person home 5 in 1;person home 3 at 3;stop : lit * 2 + lift;");
        Doc.due("the sum", x.parting(0, 1, 0), 30);
        Doc.due("the first one's", x.parting(0, 1, 1), 32);
        Doc.due("the other way round", x.parting(1, 0, 0), 30);
        Doc.due("the other way round", x.parting(1, 0, 1), 129);
        Doc.says(37, "-2: the LIFTS, both one, what; -5: they stand at unlike FLOORS.");
        for (int i : WILD) {
            Doc.due("lift " + i, x.parting(i, 1, 0), -2);
            Doc.due("other " + i, x.parting(0, i, 0), -2);
            Doc.due("what " + i, x.parting(0, 1, i), -2);
        }
        Doc.due("lift 3", x.parting(3, 1, 0), -2);
        Doc.due("other 3", x.parting(1, 3, 0), -2);
        Doc.due("both one", x.parting(1, 1, 0), -2);
        Doc.due("both one that isn't", x.parting(3, 3, 0), -2);
        Doc.due("what 2", x.parting(0, 1, 2), -2);
        Doc.due("unlike floors", x.parting(0, 2, 0), -5);
        Doc.due("unlike floors", x.parting(2, 1, 1), -5);
    }

    private static AllPressed eightAtTheTop() {
        return Check.with("house 12;lift at 11 speed 60 stops 99 down lit 4;lift at 11 speed 59 stops 98;lift at 11;person home 0 in 0 worth 99;"
            + "person home 1 at 11 worth 98;person home 2 in 1 worth 97;person home 3 in 0 worth 50;person home 4 at 11 worth 20;"
            + "person home 5 in 1;person home 10 at 11 worth 40;person home 10 in 0;");
    }

    private static void partingSums() {
        Doc.says(37, "PARTING, what 0: the sum, 1: FLOORS of the first one, as bits.");
        long[] want = new ByDeeds(EdgesOfLights::eightAtTheTop).parting(0, 1);
        Doc.due("eight people", eightAtTheTop().parting(0, 1, 0), want[0]);
        Doc.due("eight people", eightAtTheTop().parting(0, 1, 1), want[1]);
        AllPressed late = Check.with("house 12;lift at 0;lift at 0;foot:999;" + "person home 11 worth 99;".repeat(8));
        late.numbers(0, 1, 40);
        for (int i = 0; i < 40; i++) late.write(0, i, i % 2 == 0 ? 5011 : 5000);
        for (int k = 0; k < 60; k++) late.perform(0);
        Doc.due("at the bottom again", late.person(0, 0), 0);
        // All have one home, so all wait for person 0, and ride 33.
        Doc.due("more than an int", late.parting(0, 1, 0), 8L * 99 * (60L * 40 * 10989 + 33));
        Doc.due("the least set", late.parting(0, 1, 1), 0);
        AllPressed one = Check.with("house 6;lift at 2;lift at 2 speed 1;person home 5 at 2;");
        Doc.due("by the faster", one.parting(0, 1, 1), 0);
        Doc.due("by the faster", one.parting(1, 0, 1), 32);
        Doc.due("by the faster", one.parting(1, 0, 0), 3);
        AllPressed again = Check.with("house 6;lift at 2;lift at 2 speed 1;lift at 2;person home 5 at 2;");
        Doc.due("the first one's", again.parting(1, 0, 1), 32);
        Doc.due("then those of two alike", again.parting(0, 2, 1), 0);
    }

    private static void rest() {
        Doc.says(38, "The FLOOR where calls, each as often as told, are as few floors away as can be, in sum, the lowest.");
        Doc.due("the middle", Check.with("house 8;calls 0 times 3;calls 6 times 2;calls 2 times 2;").rest(), 2);
        Doc.due("the lowest", Check.with("house 8;calls 2 times 5;calls 6 times 5;").rest(), 2);
        Doc.due("no calls", Check.with("house 8;").rest(), 0);
        Doc.due("floor 1", Check.with("house 8;calls 1 times 1;").rest(), 1);
        Doc.due("floor 11", Check.with("house 12;calls 11 times 99;calls 0 times 98;").rest(), 11);
        Doc.due("floor 0", Check.with("house 12;calls 11 times 98;calls 0 times 99;").rest(), 0);
        Doc.due("each as often", Check.with("house 9;calls 0 times 1;calls 4 times 1;calls 8 times 3;").rest(), 8);
        AllPressed x = Check.with("house 12;calls 11 times 9;");
        Check.tell(x, "house 3;");
        Doc.due("a later house", x.rest(), 0);
    }

    private static void away() {
        Doc.says(39, "How many floors that is from a FLOOR, in sum. -2.");
        AllPressed x = Check.with("house 8;calls 0 times 3;calls 6 times 2;calls 2 times 2;");
        int[] want = {16, 15, 14, 17, 20, 23, 26, 33};
        for (int f = 0; f < 8; f++) Doc.due("away " + f, x.away(f), want[f]);
        StringBuilder all = new StringBuilder("house 12;");
        for (int f = 0; f < 12; f++) all.append("calls ").append(f).append(" times 99;");
        Doc.due("all of them", Check.with(all.toString()).away(0), 99 * 66);
        Doc.due("all of them", Check.with(all.toString()).away(11), 99 * 66);
        for (int f : WILD) Doc.due("floor " + f, x.away(f), -2);
        Doc.due("floor 8", x.away(8), -2);
    }

    private static void nearest() {
        Doc.says(40, "The LIFT that stands nearest to a FLOOR now, the first.");
        AllPressed x = Check.with("house 12;lift at 11;lift at 2;lift at 6 lit 7;");
        int[] want = {1, 1, 1, 1, 1, 2, 2, 2, 2, 0, 0, 0};
        for (int f = 0; f < 12; f++) Doc.due("nearest to " + f, x.nearest(f), want[f]);
        x.rides(2);
        Doc.due("now", x.nearest(9), 0);
        Doc.due("now", x.nearest(5), 2);
        Doc.due("the first of like ones", Check.with("house 12;lift at 0;lift at 0;lift at 0;").nearest(11), 0);
        Doc.due("the first of like ones", Check.with("house 12;lift at 8;lift at 2;lift at 4;").nearest(3), 1);
        Doc.due("all floors away", Check.with("house 12;lift at 0;").nearest(11), 0);
        Doc.says(40, "NONE: no LIFTS; -2.");
        Doc.due("no lifts", Check.with("house 12;").nearest(0), -1);
        Doc.due("no lifts any more", lessLifts().nearest(1), -1);
        for (int f : WILD) Doc.due("floor " + f, x.nearest(f), -2);
        Doc.due("floor 12", x.nearest(12), -2);
        Doc.due("floor 3 of 3, no lifts", lessLifts().nearest(3), -2);
    }

    private static AllPressed lessLifts() {
        AllPressed x = Check.with("house 12;lift at 1;");
        Check.tell(x, "house 3;");
        return x;
    }
}
