/** Promises 31 to 40: which lights to leave, what they cost, a boy, two lifts, where to rest. */
public final class LightTests {
    private static final String FIVE_LIT = "house 6;lift at 0 lit 1 2 3 4 5;lift at 2;"
        + "person home 4 in 0 worth 2;person home 2 in 0;";

    public static void main(String[] args) {
        least();
        fairest();
        costs();
        worstLight();
        bestLight();
        boy();
        parting();
        partingCrowd();
        partingLights();
        rest();
        nearest();
        Check.end();
    }

    private static void least() {
        AllPressed x = Check.with(FIVE_LIT);
        // With 4 alone: 12 twice, and 20 on foot; with 2 and 4: 20 twice, and 6: 46; with 2 alone: 26 twice, and 6.
        Check.due("31: least", x.least(0, 0), 44);
        Check.due("31: kept", x.least(0, 1), 16);
        Check.due("31: nobody", x.least(1, 0), 0);
        Check.due("31: nobody", x.least(1, 1), 0);
        Check.due("31: no such lift", x.least(2, 0), -2);
        Check.due("31: no such what", x.least(0, 2), -2);
        Check.due("31: no such what", x.least(0, -1), -2);
        Check.due("31: nothing is changed", x.lift(0, 2), 62);
        AllPressed y = Check.with("house 8;lift at 3 lit 0 1 2 4 5 6 7 stops 0 speed 1;person home 5 in 0;");
        Check.due("31: the fewest lights", y.least(0, 1), 32);
        AllPressed z = Check.with("house 6;lift at 3 lit 2 4 speed 1;foot : 10;person home 3 in 0;person home 5 in 0;"
            + "person home 1 in 0;");
        // By 4: 1 + 10 and 20; by 2, down: 20 and 1 + 10: like ones, the least bits.
        Check.due("31: the least bits", z.least(0, 1), 4);
        Check.due("31: with it", z.least(0, 0), 31);
        AllPressed both = Check.with("house 8;lift at 3 lit 2 4 speed 1 stops 0;foot : 10;person home 5 in 0;person home 1 in 0;");
        Check.due("31: both are less", both.least(0, 1), 20);
        AllPressed like = Check.with("house 4;lift at 2 stops 2 lit 0 1 3;person home 0 in 0;person home 3 in 0;person home 1 in 0;");
        // By 0 and 1: 8, 10 on foot, 3; by 3: 12 on foot, 3, 6 on foot.
        Check.due("31: one light ahead of two with less bits", like.least(0, 1), 8);
        Check.due("31: of like ones", like.least(0, 0), 21);
        AllPressed two = Check.with("house 6;lift at 4 speed 2 stops 7 lit 0 2 3;person home 0 in 0;person home 1 in 0;");
        Check.due("31: two lights that are less", two.least(0, 1), 5);
        Check.due("31: two lights that are less", two.least(0, 0), 15 + 10);
    }

    private static void fairest() {
        AllPressed x = Check.with(FIVE_LIT);
        // By 4 alone the latest is 20, by 3 alone: 9 + 10 and 9 + 6.
        Check.due("32: latest", x.fairest(0, 0), 19);
        Check.due("32: kept", x.fairest(0, 1), 8);
        Check.due("32: nobody", x.fairest(1, 0), 0);
        Check.due("32: nobody", x.fairest(1, 1), 0);
        Check.due("32: no such lift", x.fairest(2, 0), -2);
        Check.due("32: no such what", x.fairest(0, 2), -2);
        AllPressed y = Check.with("house 6;lift at 3 lit 2 4 speed 1;foot : 10;person home 5 in 0;person home 1 in 0;");
        // By one light the other still takes 20; by both: 4 at 1, goes at 9, 2 at 11: 21.
        Check.due("32: no light", y.fairest(0, 1), 0);
        Check.due("32: no light", y.fairest(0, 0), 20);
        AllPressed two = Check.with("house 5;lift at 2 speed 2 stops 0 lit 0 1 3 4;person home 2 in 0;person home 3 in 0;"
            + "person home 0 in 0;");
        Check.due("32: two lights", two.fairest(0, 1), 9);
        Check.due("32: two lights", two.fairest(0, 0), 8);
    }

    private static void costs() {
        AllPressed x = Check.with(FIVE_LIT);
        // Now: 33 * 2 + 13. Without 1: 2 at 6, so 6, and 26 * 2: 58. Without 2: 3 at 17, so 27 * 2, and 13: 67.
        Check.due("33: without 1", x.costs(0, 1), 79 - 58);
        Check.due("33: without 2", x.costs(0, 2), 79 - 67);
        Check.due("33: without 5", x.costs(0, 5), 0);
        Check.due("33: not lit", x.costs(0, 0), -2000000000);
        Check.due("33: not lit", x.costs(1, 0), -2000000000);
        Check.due("33: no such floor", x.costs(0, 6), -2000000000);
        Check.due("33: no such floor", x.costs(0, -1), -2000000000);
        Check.due("33: no such lift", x.costs(2, 1), -2000000000);
        AllPressed y = Check.with("house 6;lift at 0 lit 4;person home 4 in 0 worth 2;");
        Check.due("33: below 0: more", y.costs(0, 4), (12 - 40) * 2);
    }

    private static void worstLight() {
        AllPressed x = Check.with(FIVE_LIT);
        Check.due("34: worst", x.worstLight(0), 1);
        Check.due("34: none lit", x.worstLight(1), -1);
        Check.due("34: no such lift", x.worstLight(2), -2);
        Check.due("34: none is less", Check.with("house 6;lift at 0 lit 4 5;person home 4 in 0;").worstLight(0), -1);
        AllPressed y = Check.with("house 9;lift at 0 lit 2 4 8 stops 9;foot : 99;person home 8 in 0;");
        Check.due("34: the lowest", y.worstLight(0), 2);
    }

    private static void bestLight() {
        AllPressed x = Check.with("house 9;lift at 2 lit 8;lift at 3;person home 6 in 0;person home 2 in 1;");
        // Now 18 and 12 down: 30. By 5: 9 and 10; by 6: 12.
        Check.due("35: best", x.bestLight(0), 6);
        Check.due("35: at 2 on foot 6, by lift 3", x.bestLight(1), 2);
        Check.due("35: no such lift", x.bestLight(2), -2);
        AllPressed y = Check.with("house 4;lift at 0;person home 0 in 0;");
        Check.due("35: none is less", y.bestLight(0), -1);
        AllPressed z = Check.with("house 7;lift at 0;foot : 3;person home 4 in 0;");
        Check.due("35: none is less, but like", z.bestLight(0), -1);
        AllPressed low = Check.with("house 7;lift at 3;foot : 10;person home 0 in 0;person home 6 in 0;");
        Check.due("35: the lowest", low.bestLight(0), 0);
    }

    private static void boy() {
        AllPressed x = Check.with("house 5;lift at 0 lit 4;lift at 0 lit 1 2 3 4;person home 4 in 0;person home 4 in 0 worth 2;");
        // Now 12 a second's worth 3: 36. A light of 1, 2, 3 more: 8 more each: 24 more, if it isn't better on foot:
        // 1: 3 + 30, 2: 6 + 20, 3: 9 + 10 = 19, so 7 more: 21. The mean of 24, 24, 21 is 23.
        Check.due("36: one", x.boy(0, 1, 0), 23);
        Check.due("36: one", x.boy(0, 1, 1), 1);
        // 1 and 2: 28, so 16 more; 1 and 3: 3 at 17, so 27: 15 more; 2 and 3: 2 at 6, so 26: 14 more.
        Check.due("36: two", x.boy(0, 2, 0), 45);
        Check.due("36: two", x.boy(0, 2, 1), 1);
        // All: 3 at 25, so 35: 23 more; out at 1 by 33: 21 more.
        Check.due("36: all", x.boy(0, 3, 0), 63);
        Check.due("36: none", x.boy(0, 0, 0), 0);
        Check.due("36: none", x.boy(0, 0, 1), 1);
        Check.due("36: more than there are", x.boy(0, 4, 0), -2000000000);
        Check.due("36: below 0", x.boy(0, -1, 0), -2000000000);
        Check.due("36: above 11", x.boy(0, 12, 0), -2000000000);
        Check.due("36: all are lit", x.boy(1, 1, 0), -2000000000);
        Check.due("36: none of none", x.boy(1, 0, 1), 1);
        Check.due("36: no such lift", x.boy(2, 0, 0), -2000000000);
        Check.due("36: no such what", x.boy(0, 0, 2), -2000000000);
        AllPressed y = Check.with("house 5;lift at 0;person home 2 in 0;");
        // Now 20. 1: 13, 2: 6, 3: 15, 4: 20 at most: -7 - 14 - 5 - 0 = -26 in 4.
        Check.due("36: below 0", y.boy(0, 1, 0), -13);
        Check.due("36: in lowest terms", y.boy(0, 1, 1), 2);
        AllPressed all = Check.with("house 12;lift at 0;person home 11;");
        Check.due("36: nobody, all eleven", all.boy(0, 11, 0), 0);
        Check.due("36: nobody, all eleven", all.boy(0, 11, 1), 1);
    }

    private static void parting() {
        AllPressed x = Check.with("house 8;lift at 3 lit 6 1;lift at 3 speed 1 stops 0 down lit 0;lift at 4;"
            + "person home 7 at 3;person home 0 in 0 worth 3;person home 5 in 1;person home 3 at 3;stop : lit * 2 + lift;");
        // 5 by the first at 6; 0 by the other at 3, thrice, 7 at 3 + 5 + 7.
        Check.due("37: sum", x.parting(0, 1, 0), 30);
        Check.due("37: floors", x.parting(0, 1, 1), 32);
        Check.due("37: the other way", x.parting(1, 0, 1), 129);
        Check.due("37: both one", x.parting(1, 1, 0), -2);
        Check.due("37: no such lift", x.parting(0, 3, 0), -2);
        Check.due("37: no such lift", x.parting(3, 0, 0), -2);
        Check.due("37: no such what", x.parting(0, 1, 2), -2);
        Check.due("37: no such what ahead of unlike floors", x.parting(0, 2, 2), -2);
        Check.due("37: unlike floors", x.parting(0, 2, 0), -5);
        Check.due("37: nothing is changed", x.person(1, 2), 0);
    }

    private static void partingCrowd() {
        AllPressed x = Check.with("house 8;lift at 3;lift at 3;lift at 3;person home 7 in 2;person home 6 at 2;person home 3 at 3;");
        Check.due("37: those of the third lift stay", x.parting(0, 1, 0), 0);
        Check.due("37: nobody", x.parting(0, 1, 1), 0);
        Check.due("37: with the third lift", x.parting(0, 2, 0), 12);
        Check.due("37: like ones, the least set", x.parting(0, 2, 1), 0);
        x.walks(1, 3);
        // Person 1 came at 10: 10 + 9 for 6 by one, 12 for 7 by the other.
        Check.due("37: not below the second of its people", x.parting(0, 2, 0), 19 + 12);
        Check.due("37: the least set", x.parting(0, 2, 1), 64);
        AllPressed y = Check.with("house 8;lift at 3 speed 1;lift at 3 speed 1;person home 0 at 3;person home 7 at 3;");
        Check.due("37: the lowest floor alone", y.parting(0, 1, 1), 1);
        Check.due("37: the lowest floor alone", y.parting(0, 1, 0), 7);
        AllPressed z = Check.with("house 8;lift at 3;lift at 3;person home 6 at 2;person home 6 at 5;");
        z.walks(0, 3);
        z.walks(1, 0);
        z.walks(1, 5);
        Check.due("37: seconds of its people alone", z.parting(0, 1, 0), 10 + 9);
    }

    /** Laws by which another light would make it less: no light but of homes is lit. */
    private static void partingLights() {
        AllPressed x = Check.with("house 10;lift at 0 speed 1;lift at 0 speed 20;"
            + "stop : (3 - lit) * (floor - 2) * (floor - 2) * 50;person home 1;person home 5;person home 9;");
        // 1 at 1, goes at 51, 9 at 59; 5 by the other at 100.
        Check.due("37: homes alone are lit", x.parting(0, 1, 0), 160);
        Check.due("37: homes alone are lit", x.parting(0, 1, 1), 514);
        AllPressed y = Check.with("house 6;lift at 1 speed 1 lit 5;lift at 1 speed 60 lit 5;stop : (3 - lit) * 50;"
            + "person home 2 at 1;person home 4 at 1;");
        Check.due("37: neither 0 nor what was lit", y.parting(0, 1, 0), 1 + 53);
        Check.due("37: neither 0 nor what was lit", y.parting(0, 1, 1), 20);
    }

    private static void rest() {
        AllPressed x = Check.with("house 8;calls 0 times 3;calls 6 times 2;calls 2 times 2;lift at 1;");
        int[] want = {16, 15, 14, 17, 20, 23, 26, 33};
        for (int f = 0; f < 8; f++) Check.due("39: away " + f, x.away(f), want[f]);
        Check.due("38: rest", x.rest(), 2);
        Check.due("39: no such floor", x.away(8), -2);
        Check.due("39: no such floor", x.away(-1), -2);
        AllPressed y = Check.with("house 8;calls 2 times 5;calls 6 times 5;");
        Check.due("38: the lowest", y.rest(), 2);
        Check.due("38: no calls", Check.with("house 8;").rest(), 0);
        Check.due("38: the last", Check.with("house 8;calls 7 times 1;").rest(), 7);
    }

    private static void nearest() {
        AllPressed x = Check.with("house 9;lift at 8;lift at 2;lift at 6 lit 7;");
        int[] want = {1, 1, 1, 1, 1, 2, 2, 0, 0};
        for (int f = 0; f < 9; f++) Check.due("40: nearest to " + f, x.nearest(f), want[f]);
        Check.due("40: no such floor", x.nearest(9), -2);
        Check.due("40: no such floor", x.nearest(-1), -2);
        x.rides(2);
        Check.due("40: now", x.nearest(7), 2);
        Check.due("40: no lifts", Check.with("house 9;").nearest(0), -1);
        Check.due("40: no such floor first", Check.with("house 9;").nearest(9), -2);
    }
}
