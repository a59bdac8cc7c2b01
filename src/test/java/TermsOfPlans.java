import java.util.List;
import java.util.function.Supplier;

/** The Terms of what is to come: best, kept lights, boys, waiting, parting, what was seen, evenings, trays, images. */
final class TermsOfPlans {
    private static final String EIGHT = "person home 0 in 0 load 9;person home 11 in 0 worth 3;person home 5 in 1;person home 8 at 5 worth 9;"
        + "person home 2 at 5;person home 8 in 0 age 7;person home 4 in 1 worth 2;person home 9 in 2;";

    /** Small and large, with laws and without, from the middle, the top and the bottom. */
    private static final List<Supplier<AllPressed>> HOUSES = List.of(
        () -> Check.with("house 6;lift at 0 lit 1 2 3 4 5;lift at 2;person home 4 in 0 worth 2;person home 2 in 0;"),
        () -> Check.with("house 12;lift at 5 lit 0 2 4 6 8 11 speed 2;lift at 5 down lit 1 10 speed 1;lift at 5 lit 7;"
            + "stop:lit*3+floor;foot:5+up*4+load;" + EIGHT),
        () -> Check.with("house 2;lift at 0 lit 1;lift at 0 down;person home 1 in 0;person home 1;person home 0 in 1;"),
        () -> Check.with("house 7;lift at 6 lit 5 1 0 stops 0;lift at 6 speed 1 stops 20;lift at 6 down lit 2;person home 0 in 0 worth 4;"
            + "person home 3 in 0;person home 5 at 6;person home 2 in 1 worth 99;person home 6 in 1;person home 1 in 0;"),
        () -> shaken("house 8;lift at 3 lit 0 7 speed 4;lift at 3 stops 1;person home 6 in 0;person home 1 at 3;person home 7;", 99),
        () -> shaken("house 9;lift at 4 lit 8 1;lift at 4 speed 1;lift at 0;person home 3 in 0 worth 5;person home 0 in 1;"
            + "person home 8 in 2;foot:3;stop:9-lit;", -5));

    private TermsOfPlans() {}

    static void run() {
        rideOn();
        homeIs();
        best();
        bestOfALift();
        kept();
        boys();
        waiting();
        parting();
        seen();
        evenings();
        trays();
        images();
        noneIs();
    }

    private static AllPressed shaken(String text, int seed) {
        AllPressed x = Check.with(text);
        x.evenings(seed, 12);
        return x;
    }

    private static void rideOn() {
        Doc.says(Doc.TERMS, "To come: a LIFT RIDES on, nothing else being done.");
        for (Supplier<AllPressed> made : HOUSES) {
            AllPressed x = made.get();
            for (int l = 0; l < x.count(1); l++) {
                AllPressed y = made.get();
                String before = State.of(x);
                int[] floors = new int[12];
                int k = 0;
                for (; y.lift(l, 6) >= 0; k++) {
                    int second = y.lift(l, 1);
                    int speed = y.lift(l, 5);
                    int from = y.lift(l, 0);
                    floors[k] = y.rides(l);
                    Doc.due("stop " + k, x.stopAt(l, k), floors[k]);
                    Doc.due("comes", x.comes(l, floors[k]), second + speed * Math.abs(floors[k] - from));
                }
                Doc.due("stops", x.stops(l), k);
                Doc.due("no more", x.stopAt(l, k), -1);
                Doc.due("rests by", x.restsBy(l), y.lift(l, 1));
                Doc.same("nothing is done", State.of(x), before);
            }
        }
    }

    private static void homeIs() {
        Doc.says(Doc.TERMS, "HOME of a person, by what it does, is the SECOND when it is on its HOME's FLOOR, in none.");
        AllPressed x = Check.with("house 6;lift at 0 lit 3;person home 3 in 0;person home 3;person home 0;person home 0 in 0;");
        Doc.due("out at home", x.homeBy(0, 3), 9);
        Doc.due("in one at home isn't", x.count(4), 1);
        x.rides(0);
        Doc.due("in one at home isn't", x.count(4), 1);
        Doc.due("when it came, not when the lift goes", x.homeBy(0, 3), 9);
        x.out(0);
        Doc.due("out", x.count(4), 2);
        Doc.due("walks", x.best(1, 0), 30);
        Doc.due("there already", x.best(2, 0), 0);
    }

    private static void best() {
        Doc.says(Doc.TERMS, "BEST of one that is in a LIFT: it gets OUT now, or at a STOP to come, and WALKS: the soonest HOME, of like"
            + " ones the first to get OUT; of one in none: it WALKS.");
        for (Supplier<AllPressed> made : HOUSES) {
            AllPressed x = made.get();
            for (int p = 0; p < x.count(2); p++) {
                int[] want = ByDeeds.best(made, p);
                Doc.due("best of " + p, x.best(p, 0), want[0]);
                Doc.due("out of " + p, x.best(p, 1), want[1]);
            }
        }
        AllPressed like = Check.with("house 4;lift at 0 lit 1 2 3 speed 10 stops 0;person home 3 in 0;person home 1 in 0;");
        Doc.due("like: now", like.best(0, 1), 0);
        Doc.due("like: now", like.best(1, 1), 0);
        AllPressed later = Check.with("house 5;lift at 2 lit 0 3 4 speed 2 stops 2;foot:4;person home 4 in 0;");
        Doc.due("like: out at 3 by 2 + 4, at 4 by 6", later.best(0, 1), 3);
        Doc.due("like: out at 3 by 2 + 4, at 4 by 6", later.best(0, 0), 6);
    }

    private static void bestOfALift() {
        Doc.says(Doc.TERMS, "BEST of a LIFT: of all in it together: each HOME times what a second is worth, in sum.");
        for (Supplier<AllPressed> made : HOUSES) {
            AllPressed x = made.get();
            for (int l = 0; l < x.count(1); l++) {
                long sum = 0;
                for (int p = 0; p < x.count(2); p++) {
                    if (x.person(p, 2) == l) sum += (long) x.best(p, 0) * x.person(p, 6);
                }
                Doc.due("all in " + l, x.all(l), sum);
            }
        }
        AllPressed much = Check.with("house 12;lift at 0;foot:999;" + "person home 11 in 0 worth 99;".repeat(8));
        Doc.due("eight of 10989, at 99", much.all(0), 8703288);
    }

    private static void kept() {
        Doc.says(Doc.TERMS, "KEPT lights of a LIFT: those of its lit ones that are left lit, others being OFF. LEAST: by which BEST of the"
            + " LIFT is least. FAIREST: by which the latest HOME (each by BEST) is soonest. Of like ones the fewest lights, then the least"
            + " set as bits.");
        for (Supplier<AllPressed> made : HOUSES) {
            AllPressed x = made.get();
            for (int l = 0; l < x.count(1); l++) {
                long[] least = new ByDeeds(made).kept(l, false);
                Doc.due("least", x.least(l, 0), least[0]);
                Doc.due("least", x.least(l, 1), least[1]);
                long[] fairest = new ByDeeds(made).kept(l, true);
                Doc.due("fairest", x.fairest(l, 0), fairest[0]);
                Doc.due("fairest", x.fairest(l, 1), fairest[1]);
            }
        }
        AllPressed home = Check.with("house 4;lift at 2 lit 0 1 3;person home 2 in 0;");
        Doc.due("all like: no light", home.least(0, 1), 0);
        Doc.due("all like: no light", home.fairest(0, 1), 0);
        AllPressed even = Check.with("house 7;lift at 3 lit 1 5 2 4 speed 1 stops 0;foot:10;person home 0 in 0;person home 6 in 0;");
        // Both by 1 and 5 (up first): 5 at 2, 1 at 6: 12 + 16. By 2 and 4, or others, more.
        Doc.due("two lights", even.least(0, 1), 34);
        Doc.due("two lights", even.least(0, 0), 28);
        AllPressed like = Check.with("house 7;lift at 3 lit 2 4 speed 1;foot:10;person home 3 in 0;person home 6 in 0;person home 0 in 0;");
        Doc.due("one light each: the least bits", like.least(0, 1), 4);
        AllPressed fewer = Check.with("house 4;lift at 2 stops 2 lit 0 1 3;person home 0 in 0;person home 3 in 0;person home 1 in 0;");
        Doc.due("one light ahead of two of less bits", fewer.least(0, 1), 8);
    }

    private static void boys() {
        Doc.says(Doc.TERMS, "A BOY presses n (0 to 11) of the FLOORS that aren't lit, nor its own: every choice as likely: the MEAN: by how"
            + " much BEST of the LIFT is more, on the mean, in lowest terms.");
        for (Supplier<AllPressed> made : HOUSES) {
            AllPressed x = made.get();
            for (int l = 0; l < x.count(1); l++) {
                int free = Integer.bitCount(new ByDeeds(made).unlit(l));
                for (int n = 0; n <= free; n++) {
                    long[] want = new ByDeeds(made).boy(l, n);
                    Doc.due("above of " + n, x.boy(l, n, 0), want[0]);
                    Doc.due("below of " + n, x.boy(l, n, 1), want[1]);
                }
                Doc.due("more than there are", x.boy(l, free + 1, 0), -2000000000);
            }
        }
        AllPressed x = Check.with("house 12;lift at 0 speed 10 stops 10;foot:999;person home 11 in 0;");
        // With 11 lit alone 110; with all eleven of them 110 + 100; without 11 lit it is 10989 now.
        Doc.due("eleven", x.boy(0, 11, 0), 210 - 10989);
        Doc.due("eleven", x.boy(0, 11, 1), 1);
        Doc.due("twelve", x.boy(0, 12, 0), -2000000000);
        Doc.due("none", x.boy(0, 0, 0), 0);
        Doc.due("none", x.boy(0, 0, 1), 1);
        // Of one light f: 10 f, and 999 for each floor left: more by 10 f + 999 (11 - f) - 10989 = -989 f: on the mean -989 * 66 / 11.
        Doc.due("one", x.boy(0, 1, 0), -5934);
        Doc.due("one", x.boy(0, 1, 1), 1);
        AllPressed y = Check.with("house 4;lift at 0 lit 3;foot:99;person home 3 in 0;");
        Doc.due("8 more by 1, 8 more by 2", y.boy(0, 1, 0), 8);
        AllPressed thirds = Check.with("house 4;lift at 0;person home 3 in 0;stop:floor;");
        // Now 30; by 1: 23, by 2: 16, by 3: 9: -7, -14, -21.
        Doc.due("by one", thirds.boy(0, 1, 0), -14);
        // 1 and 2: 1 at 3, 2 at 7: 17; 1 and 3: 3 at 10; 2 and 3: 3 at 11: -13, -20, -19.
        Doc.due("by two, above", thirds.boy(0, 2, 0), -52);
        Doc.due("by two, below", thirds.boy(0, 2, 1), 3);
    }

    private static void waiting() {
        Doc.says(Doc.TERMS, "WAITING of a person in none for a LIFT: the person's FLOOR is lit too (if the LIFT is elsewhere), the LIFT RIDES"
            + " till it is there, the person gets IN, HOME is lit then, and the person stays till HOME (who is at HOME already doesn't wait:"
            + " HOME is its SECOND).");
        for (Supplier<AllPressed> made : HOUSES) {
            AllPressed x = made.get();
            for (int p = 0; p < x.count(2); p++) {
                for (int l = 0; l < x.count(1); l++) {
                    int want = x.person(p, 2) >= 0 ? -5 : new ByDeeds(made).waits(p, l);
                    Doc.due(p + " waits for " + l, x.waits(p, l), want);
                }
            }
        }
        AllPressed there = Check.with("house 6;lift at 2 lit 0 5;person home 1 at 2;");
        // Up to 5 at 9, goes at 17; down to 1 at 29: nobody presses 2.
        Doc.due("it is there", there.waits(0, 0), 29);
        AllPressed elsewhere = Check.with("house 6;lift at 0;person home 5 at 2;");
        Doc.due("elsewhere, 2 is lit", elsewhere.waits(0, 0), 6 + 8 + 9);
        Doc.due("lit already", Check.with("house 6;lift at 0 lit 2;person home 5 at 2;").waits(0, 0), 23);
        AllPressed again = Check.with("house 6;lift at 0 lit 1;person home 1 at 3;");
        // 1 at 3, goes at 11; 3 at 17, goes at 25; 1 is lit then, at 31.
        Doc.due("home is lit behind it", again.waits(0, 0), 31);
        AllPressed late = Check.with("house 6;lift at 2;person home 5 at 2;");
        late.walks(0, 0);
        late.walks(0, 2);
        Doc.due("its second", late.waits(0, 0), 32 + 9);
        AllPressed atHome = Check.with("house 6;lift at 2;person home 5 at 2;");
        atHome.walks(0, 5);
        Doc.due("at home already", atHome.waits(0, 0), 30);
    }

    private static void parting() {
        Doc.says(Doc.TERMS, "PARTING of two LIFTS at one FLOOR: all people on that FLOOR, in none or in one of both, with HOMES on others: each"
            + " HOME's FLOOR is one LIFT's; its people get IN that (its SECOND is not below theirs then), these FLOORS alone are lit, all stay"
            + " till HOME: HOMES times worth in sum, the least, of like ones the least set of the first one's FLOORS as bits.");
        int partings = 0;
        for (Supplier<AllPressed> made : HOUSES) {
            AllPressed x = made.get();
            for (int l = 0; l < x.count(1); l++) {
                for (int m = 0; m < x.count(1); m++) {
                    if (l == m || x.lift(l, 0) != x.lift(m, 0)) continue;
                    partings++;
                    long[] want = new ByDeeds(made).parting(l, m);
                    Doc.due("sum of " + l + " and " + m, x.parting(l, m, 0), want[0]);
                    Doc.due("floors of " + l + " and " + m, x.parting(l, m, 1), want[1]);
                }
            }
        }
        Doc.due("there were some", partings > 13 ? 1 : 0, 1);
        AllPressed nobody = Check.with("house 6;lift at 2 lit 1;lift at 2;lift at 2;person home 2 at 2;person home 4 at 3;person home 5 in 2;");
        Doc.due("nobody", nobody.parting(0, 1, 0), 0);
        Doc.due("nobody", nobody.parting(0, 1, 1), 0);
        AllPressed like = Check.with("house 6;lift at 2;lift at 2;person home 4 at 2;person home 0 at 2;");
        Doc.due("like ones: 0 by the first", like.parting(0, 1, 1), 1);
        Doc.due("like ones", like.parting(1, 0, 1), 1);
        Doc.due("both at 6", like.parting(0, 1, 0), 12);
    }

    private static void seen() {
        Doc.says(Doc.TERMS, "SEEN in a TRAY (1 to 8 twos of numbers: a FLOOR, a SECOND): a LIFT's next STOPS, one behind the other, were these,"
            + " come to then: sets of lights (any FLOORS but its own, instead of those lit now) by which it were so.");
        for (Supplier<AllPressed> made : HOUSES) {
            AllPressed x = made.get();
            for (int l = 0; l < x.count(1); l++) {
                for (int n = 1; n <= Math.min(8, x.stops(l)); n++) {
                    x.numbers(0, 2, 2 * n);
                    x.lists(0, l);
                    for (int wrong = -1; wrong < 2 * n; wrong += n) {
                        long[] twos = new long[2 * n];
                        for (int i = 0; i < n; i++) {
                            twos[2 * i] = x.stopAt(l, i);
                            twos[2 * i + 1] = x.comes(l, x.stopAt(l, i));
                        }
                        if (wrong >= 0) x.write(0, wrong, twos[wrong] ^= 1);
                        if (wrong >= 0 && wrong % 2 == 0 && twos[wrong] >= x.count(0)) break;
                        asSeen(x, l, new ByDeeds(made).seen(l, twos));
                        if (wrong >= 0) x.write(0, wrong, twos[wrong] ^ 1);
                    }
                }
            }
        }
        AllPressed eight = Check.with("house 9;lift at 0 lit 1 2 3 4 5 6 7 8;");
        eight.numbers(1, 1, 16);
        eight.lists(1, 0);
        Doc.due("eight twos", eight.seen(1, 0), 1);
        Doc.due("eight twos", eight.sure(1, 0), 510);
        AllPressed most = Check.with("house 12;lift at 0 down;");
        Check.tray(most, 1, 1, 1, 3);
        Doc.due("one two", most.seen(1, 0), 1024);
        Check.tray(most, 1, 1, 0, 0);
        Doc.due("its own", most.seen(1, 0), 0);
    }

    private static void asSeen(AllPressed x, int l, int[] sets) {
        Doc.due("sets", x.seen(0, l), sets.length);
        int inAll = sets.length > 0 ? -1 : 0;
        int[] lit = new int[12];
        for (int set : sets) {
            inAll &= set;
            for (int f = 0; f < 12; f++) lit[f] += set >> f & 1;
        }
        Doc.due("in all", x.sure(0, l), inAll);
        int most = -1;
        for (int f = x.count(0) - 1; f >= 0 && sets.length > 0; f--) {
            if (f == x.lift(l, 0)) continue;
            int lesser = Math.min(lit[f], sets.length - lit[f]);
            if (most < 0 || lesser >= Math.min(lit[most], sets.length - lit[most])) most = f;
        }
        Doc.due("most even", x.look(0, l), most);
    }

    private static void evenings() {
        Doc.says(Doc.TERMS, "EVENINGS by a SEED (x, an int; a DRAW: x becomes 1103515245 x + 12345, it is x >>> 16): so many times (1 to 40):"
            + " DRAW modulo 6: 0 and 1 LIFT DRAW modulo LIFTS RIDES; 2 of LIFT DRAW modulo LIFTS FLOOR DRAW modulo FLOORS is PRESSED; 3 person"
            + " DRAW modulo people gets OUT; 4 person DRAW modulo people gets IN LIFT DRAW modulo LIFTS; 5 person DRAW modulo people WALKS to"
            + " FLOOR DRAW modulo FLOORS; as in a TRAY, if it can be.");
        int[] seeds = {0, 1, -1, 2, 42, 1234567, -1234567, Integer.MAX_VALUE, Integer.MIN_VALUE, 65536, -65536, 99999};
        for (Supplier<AllPressed> made : HOUSES) {
            for (int i = 0; i < seeds.length; i++) {
                int times = i % 3 == 0 ? 40 : i % 3 == 1 ? 1 : i;
                AllPressed x = made.get();
                AllPressed y = made.get();
                int before = x.count(6);
                int done = ByDeeds.evenings(y, seeds[i], times);
                Doc.due("how many by " + seeds[i], x.evenings(seeds[i], times), done);
                Doc.same("state by " + seeds[i], State.of(x), State.of(y));
                Doc.due("one call", x.count(6), before + (done > 0 ? 1 : 0));
            }
        }
    }

    private static void trays() {
        Doc.says(Doc.TERMS, "TRAYS 0 to 3 are MISSING at first, or have 0 to 40 numbers of 8 bits (sort 0), 16 (1), 32 (2), 64 (3).");
        AllPressed x = new AllPressed();
        for (int tray = 0; tray < 4; tray++) Doc.due("missing", x.perform(tray), -6);
        Doc.due("below 0", x.perform(-1), -2);
        Doc.due("above 3", x.perform(4), -2);
        for (int sort = 0; sort < 4; sort++) {
            Doc.due("none", x.numbers(sort, sort, 0), 0);
            Doc.due("none, not missing", x.perform(sort), 0);
            Doc.due("no first one", x.write(sort, 0, 1), -7);
            Doc.due("forty", x.numbers(sort, sort, 40), 0);
            Doc.due("the last", x.write(sort, 39, 1), 1);
            Doc.due("no more", x.write(sort, 40, 1), -7);
            int bits = 8 << sort;
            long greatest = Long.MAX_VALUE >> 64 - bits;
            Doc.due("greatest", x.write(sort, 0, greatest), greatest);
            Doc.due("one more", x.write(sort, 0, greatest + 1), -greatest - 1);
            Doc.due("least", x.write(sort, 0, -greatest - 1), -greatest - 1);
            Doc.due("one less", x.write(sort, 0, -greatest - 2), greatest);
            Doc.due("all bits", x.write(sort, 0, -1), -1);
        }
    }

    private static void images() {
        Doc.says(Doc.TERMS, "IMAGES 0 to 1: THE HOUSE and what a call could bring back by UNDOING; nothing can be UNDONE behind (none at"
            + " first).");
        AllPressed x = new AllPressed();
        for (int i = 0; i < 2; i++) Doc.due("none at first", x.restore(i), -5);
        Doc.due("below 0", x.restore(-1), -2);
        Doc.due("above 1", x.restore(2), -2);
        for (Supplier<AllPressed> made : HOUSES) {
            AllPressed y = made.get();
            String[] states = new String[2];
            for (int i = 0; i < 2; i++) {
                y.evenings(i, 9);
                states[i] = State.of(y);
                Doc.due("image", y.image(i), 0);
                Doc.same("nothing is changed", State.of(y), states[i]);
            }
            Check.tell(y, "house 3;lift at 1;calls 0 times 9;");
            y.press(0, 2);
            for (int i = 0; i < 2; i++) {
                Doc.due("restore", y.restore(i), 0);
                Doc.same("restored", State.of(y), states[i]);
                Doc.due("nothing can be undone", y.count(6), 0);
                Doc.due("nothing can be undone", y.undo(1), -3);
                int done = y.evenings(5, 40);
                Doc.due("behind that, some", y.count(6), 1);
                Doc.due("behind that, some", done > 0 ? y.undo(1) : 1, 0);
                Doc.same("back at the image", State.of(y), states[i]);
            }
        }
    }

    private static void noneIs() {
        Doc.says(Doc.TERMS, "The constants: `NONE = -1`: There is none.");
        Doc.due("NONE", AllPressed.NONE, -1);
    }
}
