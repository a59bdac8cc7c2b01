/** The Terms of seconds, rides, laws, deeds and undoing. */
final class TermsOfDeeds {
    private static final String FULL = "house 12;lift at 3 lit 0 5 11 speed 2;lift at 0 lit 11 stops 1;lift at 3 down;"
        + "person home 5 in 0;person home 0;person home 1 at 3;person home 11 at 11;person home 2 in 2;person home 9 at 3;"
        + "person home 3;person home 4 in 1;";

    private TermsOfDeeds() {}

    static void run() {
        calls512();
        seconds();
        whoIsInIt();
        nextStop();
        aRide();
        stopLaw();
        footLaw();
        keptBothLaws();
        pressing();
        gettingIn();
        gettingOut();
        walking();
        deedsByNumber();
        whyNot();
        undoneAsAWhole();
        undoneTen();
        undoneAcrossTheRing();
    }

    private static void calls512() {
        Doc.says(Doc.WHAT_IT_IS, "An object is used for at most 512 calls after it has been made; what later calls answer is free.");
        AllPressed x = Check.with("house 2;person home 0;");
        // Two were to feed, one to read; up takes 10, down 6.
        for (int call = 4; call <= 512; call++) {
            int walk = call - 3;
            Doc.due("call " + call, x.walks(0, walk % 2), walk * 8 + walk % 2 * 2);
        }
    }

    private static void seconds() {
        Doc.says(Doc.TERMS, "All have a SECOND of their own (0 at first): of a LIFT from when on it may go, of a person when it came"
            + " where it is.");
        String text = "house 4;lift at 0 lit 2;lift at 1;person home 0 in 0;person home 0 at 3;";
        AllPressed x = Check.with(text);
        int[][] want = {{0, 0, 0, 0}, {14, 0, 6, 0}, {14, 0, 6, 6}};
        for (int k = 0; k < 3; k++) {
            if (k == 1) x.rides(0);
            if (k == 2) x.walks(1, 2);
            Doc.due("lift 0", x.lift(0, 1), want[k][0]);
            Doc.due("lift 1", x.lift(1, 1), want[k][1]);
            Doc.due("person 0", x.person(0, 1), want[k][2]);
            Doc.due("person 1", x.person(1, 1), want[k][3]);
        }
        Check.tell(x, text);
        for (int i = 0; i < 2; i++) Doc.due("a later house's lift", x.lift(i, 1), 0);
        for (int i = 0; i < 2; i++) Doc.due("a later house's person", x.person(i, 1), 0);
    }

    private static void whoIsInIt() {
        Doc.says(Doc.TERMS, "A LIFT stands at a FLOOR; who is in it is there, too.");
        AllPressed x = Check.with("house 9;lift at 7 lit 8;lift at 2;person home 0 in 0;person home 0 in 1;person home 0 at 7;");
        int[][] want = {{7, 2, 7}, {8, 2, 7}};
        for (int k = 0; k < 2; k++) {
            if (k == 1) x.rides(0);
            for (int p = 0; p < 3; p++) Doc.due("floor of " + p, x.person(p, 0), want[k][p]);
            Doc.due("floor of the lift", x.lift(0, 0), want[k][0]);
        }
    }

    private static void nextStop() {
        Doc.says(Doc.TERMS, "Its next STOP: the nearest FLOOR that is lit the way it goes; if there is none, the nearest the other way,"
            + " and it goes that way; if there is none, it RESTS.");
        int[][] ways = {{6, 11, 4, 0}, {4, 0, 6, 11}};
        for (int down = 0; down < 2; down++) {
            AllPressed x = Check.with("house 12;lift at 5 lit 0 4 6 11" + (down == 1 ? " down;" : ";"));
            for (int k = 0; k < 4; k++) {
                Doc.due("its way till then", x.lift(0, 3), (k < 3 ? 1 : 0) ^ down);
                Doc.due("next", x.lift(0, 6), ways[down][k]);
                Doc.due("rides", x.rides(0), ways[down][k]);
                Doc.due("its way", x.lift(0, 3), (k < 2 ? 1 : 0) ^ down);
            }
            Doc.due("rests", x.lift(0, 6), -1);
            Doc.due("rests", x.rides(0), -12);
            Doc.due("its way as it rests", x.lift(0, 3), down);
        }
        Doc.due("at the top, up", Check.with("house 12;lift at 11 lit 0 9 10;").lift(0, 6), 10);
        Doc.due("at the bottom, down", Check.with("house 12;lift at 0 lit 1 2 11 down;").lift(0, 6), 1);
        Doc.due("nearer the other way", Check.with("house 12;lift at 5 lit 4 11;").lift(0, 6), 11);
        Doc.due("nearer the other way", Check.with("house 12;lift at 5 lit 6 0 down;").lift(0, 6), 0);
    }

    private static void aRide() {
        Doc.says(Doc.TERMS, "A RIDE: it goes to its next STOP: SPEED for each floor; all in it came then; that light is out; its SECOND"
            + " is then, and as many more as it STOPS there.");
        AllPressed x = Check.with("house 12;lift at 0 lit 11 1 speed 60 stops 99;lift at 0 lit 11;"
            + "person home 0 in 0;person home 3 in 0;person home 0 in 1;person home 0;");
        int[][] want = {{1, 60, 159, 2048}, {11, 759, 858, 0}};
        for (int[] row : want) {
            Doc.due("floor", x.rides(0), row[0]);
            for (int p = 0; p < 2; p++) Doc.due("came", x.person(p, 1), row[1]);
            Doc.due("second", x.lift(0, 1), row[2]);
            Doc.due("lights", x.lift(0, 2), row[3]);
        }
        x.press(0, 4);
        Doc.due("down", x.rides(0), 4);
        Doc.due("down, came", x.person(0, 1), 858 + 420);
        Doc.due("another lift's lights", x.lift(1, 2), 2048);
        Doc.due("another lift's second", x.lift(1, 1), 0);
        for (int p = 2; p < 4; p++) Doc.due("others' second", x.person(p, 1), 0);
        for (int p = 2; p < 4; p++) Doc.due("others' floor", x.person(p, 0), 0);
    }

    private static int stopBy(String sum) {
        return Check.with("house 3;lift at 0 stops 7;stop:" + sum + ";").stop(0, 1, 1);
    }

    private static void stopLaw() {
        Doc.says(Doc.TERMS, "STOPS: by the law stop, 0 at least, 999 at most (without one: as told): floor: that one, lit: how many"
            + " lights were lit as it came (that one, too), lift: its number.");
        String[] sums = {"0", "0-1", "1", "999", "999+1", "998+1", "0-999*999", "999*999"};
        int[] want = {0, 0, 1, 999, 999, 999, 0, 999};
        for (int i = 0; i < sums.length; i++) Doc.due(sums[i], stopBy(sums[i]), want[i]);
        Doc.due("without one", Check.with("house 3;lift at 0 stops 7;").stop(0, 1, 1), 7);
        AllPressed x = Check.with("house 6;lift at 0 lit 3 5;lift at 0 lit 3;lift at 0 lit 1;stop:floor*10+lit+lift*100;");
        x.rides(0);
        Doc.due("at 3, two lit", x.lift(0, 1), 9 + 32);
        x.rides(0);
        Doc.due("at 5, one lit", x.lift(0, 1), 41 + 6 + 51);
        x.rides(1);
        Doc.due("lift 1", x.lift(1, 1), 9 + 131);
        Doc.due("lift 2", x.restsBy(2), 3 + 211);
        AllPressed after = Check.with("house 3;lift at 0;stop:77;");
        Check.tell(after, "house 3;lift at 0 stops 5;");
        Doc.due("a later house without one", after.stop(0, 1, 1), 5);
        AllPressed most = Check.with("house 12;lift at 0 lit 1 2 3 4 5 6 7 8 9 10 11 speed 1;stop:lit;");
        most.rides(0);
        Doc.due("eleven lit", most.lift(0, 1), 1 + 11);
        Doc.due("eleven stops", most.restsBy(0), 11 + 66);
    }

    private static int footBy(String sum) {
        return Check.with("house 3;person home 0;foot:" + sum + ";").foot(0, 0, 1);
    }

    private static void footLaw() {
        Doc.says(Doc.TERMS, "A FLOOR on FOOT takes, by the law foot, 0 at least, 999 at most (without one: 10 up, 6 down): up: 1 up,"
            + " 0 down, load, age: the person's, floor: the one it leaves.");
        String[] sums = {"0", "0-1", "1", "999", "999+1", "998+1", "0-999*999", "999*999"};
        int[] want = {0, 0, 1, 999, 999, 999, 0, 999};
        for (int i = 0; i < sums.length; i++) Doc.due(sums[i], footBy(sums[i]), want[i]);
        AllPressed x = Check.with("house 5;person home 0;foot:floor*500-400;");
        Doc.due("each floor for itself", x.foot(0, 0, 4), 0 + 100 + 600 + 999);
        Doc.due("each floor for itself, down", x.foot(0, 4, 0), 999 + 999 + 600 + 100);
        AllPressed without = Check.with("house 12;person home 0;");
        Doc.due("without one, up", without.foot(0, 0, 11), 110);
        Doc.due("without one, down", without.foot(0, 11, 0), 66);
        AllPressed up = Check.with("house 5;person home 0;foot:up*7+2;");
        Doc.due("up", up.foot(0, 1, 3), 18);
        Doc.due("down", up.foot(0, 3, 1), 4);
        AllPressed two = Check.with("house 5;person home 0 load 3 age 4;foot:load*100+age;person home 0 load 5 age 99;person home 0;");
        int[] theirs = {304, 599, 0};
        for (int p = 0; p < 3; p++) Doc.due("the person's", two.foot(p, 0, 1), theirs[p]);
        AllPressed after = Check.with("house 3;person home 0;foot:77;");
        Check.tell(after, "house 3;person home 0;");
        Doc.due("a later house without one", after.foot(0, 0, 1), 10);
        AllPressed most = Check.with("house 12;foot:999;person home 11;");
        Doc.due("eleven floors", most.walks(0, 11), 10989);
    }

    /** M is 1,000,000, as (999+1)*(999+1): each sum would be another one if a bound were elsewhere by one. */
    private static void keptBothLaws() {
        Doc.says(Doc.TERMS, "In both laws each + - * is kept from -1,000,000 to 1,000,000.");
        String[] sums = {"M+1-M+5", "M-999*(999+1)-500", "0-M-1+M+5", "0-M+999*(999+1)+(999+1)+500", "M*2-M+5", "(0-999-1)*(999+1)*2+M+5",
            "(0-M)+(0-1)+M+5", "M-(0-1)-M+5", "M*M-M+5", "M*(0-M)+M+5", "(0-M)*(0-M)-M+5", "999*999+999*999-M+7", "0-M-M-M+M+9",
            "(M+M)*(M+M)-(M+M)+4"};
        int[] want = {5, 500, 5, 500, 5, 5, 5, 5, 5, 5, 5, 7, 9, 4};
        for (int i = 0; i < sums.length; i++) {
            String sum = sums[i].replace("M", "(999+1)*(999+1)").replace("(0-(999+1)*(999+1))", "(0-((999+1)*(999+1)))");
            Doc.due("foot " + sums[i], footBy(sum), want[i]);
            Doc.due("stop " + sums[i], stopBy(sum), want[i]);
        }
    }

    private static void pressing() {
        Doc.says(Doc.TERMS, "To PRESS: a FLOOR of a LIFT is lit; PRESSED OFF: it is not.");
        AllPressed x = Check.with("house 12;lift at 5;lift at 5;");
        for (int f = 0; f < 12; f++) {
            if (f != 5) Doc.due("lit " + f, x.press(0, f), f < 5 ? f + 1 : f);
        }
        Doc.due("all but its own", x.lift(0, 2), 4095 - 32);
        Doc.due("of that lift alone", x.lift(1, 2), 0);
        for (int f = 11; f >= 0; f--) {
            if (f != 5) Doc.due("not lit " + f, x.pressOff(0, f), f > 5 ? f - 1 : f);
        }
        Doc.due("none", x.lift(0, 2), 0);
    }

    private static void gettingIn() {
        Doc.says(Doc.TERMS, "To get IN: a person on a LIFT's FLOOR, in none: the LIFT's SECOND is not below its SECOND then.");
        AllPressed x = Check.with("house 4;lift at 0 lit 1;person home 3;person home 3 at 1;person home 0;person home 0;");
        Doc.due("both 0", x.in(2, 0), 0);
        x.rides(0);
        Doc.due("below the lift's", x.in(1, 0), 11);
        x.walks(0, 1);
        Doc.due("a second less than the lift's", x.person(0, 1), 10);
        Doc.due("a second less than the lift's", x.in(0, 0), 11);
        x.walks(3, 3);
        x.walks(3, 1);
        Doc.due("above the lift's", x.person(3, 1), 42);
        Doc.due("above the lift's", x.in(3, 0), 42);
        Doc.due("above the lift's", x.lift(0, 1), 42);
        int[] seconds = {10, 0, 3, 42};
        for (int p = 0; p < 4; p++) {
            Doc.due("in it", x.person(p, 2), 0);
            Doc.due("its own second", x.person(p, 1), seconds[p]);
        }
        Doc.due("on another floor", Check.with("house 4;lift at 1;person home 3;").in(0, 0), -13);
        Doc.due("in one", Check.with("house 4;lift at 1;person home 3 in 0;").in(0, 0), -12);
    }

    private static void gettingOut() {
        Doc.says(Doc.TERMS, "To get OUT: it is on that FLOOR, in none.");
        AllPressed x = Check.with("house 4;lift at 0 lit 2;person home 3 in 0;person home 3 in 0;");
        x.rides(0);
        Doc.due("its floor", x.out(0), 2);
        Doc.due("in none", x.person(0, 2), -1);
        Doc.due("the floor", x.person(0, 0), 2);
        Doc.due("its second", x.person(0, 1), 6);
        Doc.due("the other one", x.person(1, 2), 0);
        Doc.due("the lift's second", x.lift(0, 1), 14);
        Doc.due("who is in it", x.lift(0, 4), 2);
    }

    private static void walking() {
        Doc.says(Doc.TERMS, "To WALK: a person in none, to a FLOOR, floor by floor: its SECOND is so many more.");
        AllPressed x = Check.with("house 12;foot:floor+1;person home 3;person home 3;");
        Doc.due("up", x.walks(0, 11), 66);
        Doc.due("down", x.walks(0, 0), 66 + 77);
        Doc.due("one floor", x.walks(0, 1), 144);
        Doc.due("where", x.person(0, 0), 1);
        Doc.due("the other one", x.person(1, 1), 0);
        AllPressed still = Check.with("house 3;foot:0;person home 2;");
        Doc.due("in no time", still.walks(0, 2), 0);
        Doc.due("but there", still.person(0, 0), 2);
    }

    /** What the call that a number stands for answers; null, if it stands for none. */
    private static Integer byCall(AllPressed x, int v) {
        if (v >= 0 && v <= 299) return x.press(v / 100, v % 100);
        if (v >= 1000 && v <= 1299) return x.pressOff((v - 1000) / 100, v % 100);
        if (v >= 2000 && v <= 2002) return x.rides(v - 2000);
        if (v >= 3000 && v <= 3007) return x.out(v - 3000);
        if (v >= 4000 && v <= 4099) return x.in((v - 4000) / 10, v % 10);
        if (v >= 5000 && v <= 5799) return x.walks((v - 5000) / 100, v % 100);
        return null;
    }

    private static void deedsByNumber() {
        Doc.says(Doc.TERMS, "DEEDS in a TRAY: 0 to 299: a FLOOR v modulo 100 of LIFT v by 100 is PRESSED; 1000 to 1299: likewise PRESSED"
            + " OFF; 2000 and a LIFT: a RIDE; 3000 and a person: OUT; 4000 to 4099: person (v - 4000) by 10 IN LIFT v modulo 10; 5000 to"
            + " 5799: person (v - 5000) by 100 WALKS to FLOOR v modulo 100.");
        int could = 0;
        for (int v = -1001; v <= 7000; v++) {
            AllPressed x = Check.with(FULL);
            AllPressed y = Check.with(FULL);
            Check.tray(x, 0, 2, v);
            Integer answer = byCall(y, v);
            boolean isDone = answer != null && answer >= 0;
            Doc.due("judged " + v, x.judge(0, 1), answer == null ? 1 : isDone ? 0 : -10 - answer);
            Doc.due("done " + v, x.perform(0), isDone ? 1 : 0);
            if (isDone) could++;
            if (isDone) Doc.same("state by " + v, State.of(x), State.of(y));
        }
        // 8, 10 and 11 floors to press, 4 that are lit, 2 rides, 3 to get out, 6 to get in, 5 who walk to 11 floors.
        Doc.due("how many could be", could, 8 + 10 + 11 + 4 + 2 + 3 + 6 + 55);
    }

    private static void whyNot() {
        Doc.says(Doc.TERMS, "Why not: 1 no such LIFT, person, FLOOR, number; 2 it is lit, is its own FLOOR (to PRESS), isn't lit (OFF),"
            + " the LIFT RESTS, the person is in none (OUT), in one (IN, WALK), is there (WALK); 3 the LIFT is elsewhere (IN).");
        long[][] want = {{300, 1}, {12, 1}, {1300, 1}, {1012, 1}, {2003, 1}, {3008, 1}, {4080, 1}, {4013, 1}, {5800, 1}, {5112, 1},
            {999, 1}, {6000, 1}, {-1, 1}, {Long.MIN_VALUE, 1}, {Long.MAX_VALUE, 1}, {(1L << 32) + 2000, 1}, {(1L << 40) + 1, 1},
            {5, 2}, {3, 2}, {1001, 2}, {1003, 2}, {1100, 2}, {2002, 2}, {3001, 2}, {4000, 2}, {4001, 2}, {5000, 2}, {5005, 2}, {5100, 2},
            {4010, 3}, {4021, 3}, {4031, 3}, {4011, 0}, {4020, 0}, {4022, 0}, {1, 0}, {1000, 0}, {2000, 0}, {3000, 0}, {5111, 0}};
        for (long[] row : want) {
            AllPressed x = Check.with(FULL);
            Check.tray(x, 3, 3, row[0]);
            Doc.due("why not " + row[0], x.judge(3, 1), row[1]);
        }
    }

    /** One of each sort of call that does some. */
    private static long deed(AllPressed x, int k) {
        switch (k) {
            case 0: return x.press(2, 0);
            case 1: return x.pressOff(0, 5);
            case 2: return x.rides(0);
            case 3: return x.out(7);
            case 4: return x.in(2, 2);
            case 5: return x.walks(3, 0);
            case 6: return x.perform(0);
            default: return x.evenings(7, 40);
        }
    }

    private static void undoneAsAWhole() {
        Doc.says(Doc.TERMS, "Calls that did some can be UNDONE each as a whole, the latest first, 10 at most (eldest are forgotten):"
            + " LIFTS, people.");
        AllPressed x = Check.with(FULL);
        Check.tray(x, 0, 1, 2001, 3007, 5711, 100, 2001, 6000, 2000);
        String[] states = new String[9];
        for (int k = 0; k < 8; k++) {
            states[k] = State.of(x);
            long answer = deed(x, k);
            Doc.due("done " + k + " " + answer, answer >= 0 ? 1 : 0, 1);
            Doc.due("undoable " + k, x.count(6), k + 1);
        }
        for (int k = 7; k >= 0; k--) {
            Doc.due("changed by " + k, State.of(x).equals(states[k]) ? 1 : 0, 0);
            Doc.due("undo " + k, x.undo(1), k);
            Doc.same("undone " + k, State.of(x), states[k]);
        }
    }

    private static void undoneTen() {
        AllPressed x = Check.with("house 12;lift at 0;person home 0;");
        for (int f = 1; f < 12; f++) x.press(0, f);
        Doc.due("ten at most", x.count(6), 10);
        Doc.due("eleven", x.undo(11), -3);
        Doc.due("ten", x.undo(10), 0);
        Doc.due("the eldest is forgotten", x.lift(0, 2), 2);
        Doc.due("one more", x.undo(1), -3);
        Doc.due("refused ones don't count", x.press(0, 1), -12);
        Check.tray(x, 0, 1, 2001, 2000);
        Doc.due("nor what did none", x.perform(0), 0);
        Doc.due("nor what asks", x.stops(0), 1);
        Doc.due("nothing", x.count(6), 0);
        Doc.due("behind that, some", x.walks(0, 1), 10);
        Doc.due("behind that, one", x.count(6), 1);
    }

    /** Twenty rounds of seven deeds, four undone and done again, so that what is kept is written over and over. */
    private static void undoneAcrossTheRing() {
        AllPressed x = Check.with("house 12;lift at 0;person home 0;");
        int[] seconds = new int[200];
        int at = 0;
        for (int round = 0; round < 20; round++) {
            for (int k = 0; k < 7; k++) {
                x.walks(0, 1 - x.person(0, 0));
                seconds[++at] = x.person(0, 1);
            }
            int left = Math.min(10, round * 3 + 7) - 4;
            Doc.due("round " + round, x.undo(4), left);
            at -= 4;
            Doc.due("second in round " + round, x.person(0, 1), seconds[at]);
        }
        Doc.due("the last six", x.undo(6), 0);
        Doc.due("the last six", x.person(0, 1), seconds[at - 6]);
    }
}
