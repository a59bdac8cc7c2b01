/** Promises 1 to 9: the text, its tokens and faults, and what is told of the house. */
public final class HouseTests {
    public static void main(String[] args) {
        newObject();
        feed();
        house();
        fault();
        faultsOfTokens();
        faultsOfPlaces();
        faultsOfBounds();
        faultsOfTooMany();
        lift();
        person();
        foot();
        laws();
        stop();
        calls();
        Check.end();
    }

    private static void newObject() {
        AllPressed x = new AllPressed();
        int[] want = {2, 0, 0, 0, 0, 0, 0, 0, 0};
        for (int what = 0; what < want.length; what++) Check.due("1: count(" + what + ")", x.count(what), want[what]);
        Check.due("1: fault(0)", x.fault(0), 0);
        Check.due("1: fault(1)", x.fault(1), -1);
        for (int t = 0; t < 4; t++) Check.due("1: perform", x.perform(t), -6);
        for (int i = 0; i < 2; i++) Check.due("1: restore", x.restore(i), -5);
        Check.due("1: NONE", AllPressed.NONE, -1);
    }

    private static void feed() {
        AllPressed x = new AllPressed();
        for (int i = 1; i <= 45; i++) Check.due("2: feed", x.feed(0x20202020, 0, -1, 7, 0x0a0a0a0a), 20 * i);
        Check.due("2: feed above 900", x.feed(1, 2, 3, 4, 5), -5);
        Check.due("2: count(7)", x.count(7), 900);
        Check.due("2: house reads what was fed", x.house(900), -31);
        Check.due("2: the first byte that is no token", x.fault(1), 4);
        Check.due("2: empty then", x.feed(0, 0, 0, 0, 0), 20);
    }

    private static void house() {
        AllPressed x = new AllPressed();
        Check.due("3: lines", Check.tell(x, "house 5;\n lift\nat 4 ; person home 3;person home 2;calls 1 times 2;"), 5);
        Check.due("3: count(8)", x.count(8), 5);
        Check.due("3: the tape is empty", x.count(7), 0);
        x.walks(0, 1);
        Check.feed(x, "house 3;lift;");
        Check.due("3: n below 0", x.house(-1), -3);
        Check.due("3: n above what there is", x.house(21), -3);
        Check.due("3: the tape stays", x.count(7), 20);
        Check.due("3: a fault", x.house(13), -32);
        Check.due("3: empty with a fault, too", x.count(7), 0);
        Check.due("3: all stays with a fault", x.count(0), 5);
        Check.due("3: undoing stays with a fault", x.count(6), 1);
        Check.due("3: lines stay with a fault", x.count(8), 5);
        Check.due("3: person stays with a fault", x.person(0, 0), 1);
        Check.feed(x, "house 3;lift;");
        Check.due("3: only the first n", x.house(8), 1);
        Check.due("3: nothing can be undone", x.count(6), 0);
        Check.due("3: no lifts of the house before", x.count(1), 0);
        Check.due("3: no calls of the house before", x.calls(1), 0);
        Check.due("3: seconds begin at 0", Check.tell(x, "house 2;lift at 0;person home 1;"), 3);
        Check.due("3: person's second", x.person(0, 1), 0);
        Check.due("3: tokens without blanks", Check.tell(x, "house12;lift at0lit1 2down;calls3times4;"), 3);
        Check.due("3: leading noughts", Check.tell(x, "house 002;"), 1);
    }

    private static void fault() {
        AllPressed x = new AllPressed();
        faulty(x, "house 3;boy;", 2, 8);
        Check.due("4: others", x.fault(2), -1);
        Check.due("4: others", x.fault(-1), -1);
        x.house(1);
        Check.due("4: stays if it was not read", x.fault(0), 2);
        Check.tell(x, "house 3;");
        Check.due("4: none", x.fault(0), 0);
        Check.due("4: no place", x.fault(1), -1);
    }

    private static void faulty(AllPressed x, String text, int kind, int place) {
        Check.due("3: house " + text, Check.tell(x, text), -30 - kind);
        Check.due("4: fault(0) " + text, x.fault(0), kind);
        Check.due("4: fault(1) " + text, x.fault(1), place);
    }

    private static void faultsOfTokens() {
        AllPressed x = new AllPressed();
        faulty(x, "House 3;", 1, 0);
        faulty(x, "house 3;\tlift at 0;", 1, 8);
        faulty(x, "house 1000;", 1, 6);
        faulty(x, "house 0003;", 1, 6);
        faulty(x, "house 3;foot : 1 2345;", 1, 17);
        faulty(x, "house 3;foot : 1 / 2;", 1, 17);
        faulty(x, "house 3;boy; #", 2, 8);
        faulty(x, "house 3;# boy;", 1, 8);
        faulty(x, "house 3;lift at 0 \u00e9;", 1, 18);
        faulty(x, "house 3;lift at 0\r;", 1, 17);
        faulty(x, "house 3,", 1, 7);
        faulty(x, "house 3;z;", 2, 8);
        faulty(x, "house 3;`;", 1, 8);
        faulty(x, "house 3;{;", 1, 8);
        faulty(x, "house 3;/;", 1, 8);
        faulty(x, "house 3;<;", 1, 8);
    }

    private static void faultsOfPlaces() {
        AllPressed x = new AllPressed();
        Check.due("3: an empty text", x.house(0), -32);
        Check.due("4: an empty text", x.fault(1), 0);
        faulty(x, "  \n ", 2, 4);
        faulty(x, "house", 2, 5);
        faulty(x, "house 3 ", 2, 8);
        faulty(x, "houses 3;", 2, 0);
        faulty(x, "house 3;;", 2, 8);
        faulty(x, "house 3;house 3;", 2, 8);
        faulty(x, "house 3;person home 1 home 1;", 2, 22);
        faulty(x, "house 3;person home 1 down;", 2, 22);
        faulty(x, "house 3;lift at 0 at 1;", 2, 18);
        faulty(x, "house 3;lift at 0 lit;", 2, 21);
        faulty(x, "house 3;lift at 0 lit 1 2 ", 2, 26);
        faulty(x, "house 3;lift at 0 5;", 2, 18);
        faulty(x, "house 3;foot : floor + lift;", 2, 23);
        faulty(x, "house 3;stop : up;", 2, 15);
        faulty(x, "house 3;stop : load;", 2, 15);
        faulty(x, "house 3;stop : 1);", 2, 16);
        faulty(x, "house 3;stop : (1;", 2, 17);
        faulty(x, "house 3;stop : ();", 2, 16);
        faulty(x, "house 3;stop : - 1;", 2, 15);
        faulty(x, "house 3;stop : 1 + ;", 2, 19);
        faulty(x, "house 3;stop : 1 (2);", 2, 17);
        faulty(x, "house 3;stop : ((((((1 (", 2, 23);
        faulty(x, "house 3;stop 1;", 2, 13);
        faulty(x, "house 3;calls 1 2;", 2, 16);
        faulty(x, "house 3;calls 1 times;", 2, 21);
    }

    private static void faultsOfBounds() {
        AllPressed x = new AllPressed();
        faulty(x, "house 1;", 3, 6);
        faulty(x, "house 13;", 3, 6);
        faulty(x, "house 3;lift at 3;", 3, 16);
        faulty(x, "house 3;lift at 1 speed 0;", 3, 24);
        faulty(x, "house 3;lift at 1 speed 61;", 3, 24);
        faulty(x, "house 3;lift at 1 stops 100;", 3, 24);
        faulty(x, "house 3;lift at 1 lit 0 1;", 3, 24);
        faulty(x, "house 3;lift at 1 lit 3;", 3, 22);
        faulty(x, "house 3;lift at 0;person home 1 in 1;", 3, 35);
        faulty(x, "house 3;person home 1 in 0;lift at 0;", 3, 25);
        faulty(x, "house 3;person home 3;", 3, 20);
        faulty(x, "house 3;person home 0 at 3;", 3, 25);
        faulty(x, "house 3;person home 0 load 100;", 3, 27);
        faulty(x, "house 3;person home 0 age 100;", 3, 26);
        faulty(x, "house 3;person home 0 worth 0;", 3, 28);
        faulty(x, "house 3;person home 0 worth 100;", 3, 28);
        faulty(x, "house 3;calls 3 times 1;", 3, 14);
        faulty(x, "house 3;calls 2 times 100;", 3, 22);
        Check.due("3: bounds that can be", Check.tell(x, "house 2;lift at 1 lit 0;person home 0 load 0 age 0 worth 1 at 1;"
            + "calls 0 times 0;"), 4);
        Check.due("3: bounds that can be", Check.tell(x, "house 12;lift at 11 speed 60 stops 99 lit 0 10;"
            + "lift at 0 speed 1 stops 0;person home 11 load 99 age 99 worth 99 in 1;calls 11 times 99;foot : 999;"), 6);
    }

    private static void faultsOfTooMany() {
        AllPressed x = new AllPressed();
        faulty(x, "house 3;lift at 0;lift at 1;lift at 2;lift", 4, 38);
        String people = "person home 1;".repeat(8);
        faulty(x, "house 3;" + people + "person home 1;", 4, 8 + 14 * 8);
        Check.due("3: eight people", Check.tell(x, "house 3;" + people), 9);
        faulty(x, "house 3;foot : 1 + (((((( ( 1", 4, 26);
        Check.due("3: six within one another", Check.tell(x, "house 3;foot : ((((((1))))))*(2)*(3)*(4)*(5)*(6)*(7);"), 2);
        Check.due("3: all 900 bytes", Check.tell(x, "house 3;foot : " + "1+".repeat(442) + "1"), -32);
        Check.due("4: the end", x.fault(1), 900);
        Check.due("3: a long law", Check.tell(x, "house 3;person home 2;foot:" + "1+".repeat(435) + "1;"), 3);
        Check.due("7: a long law", x.foot(0, 0, 1), 436);
    }

    private static void lift() {
        AllPressed x = Check.with("house 7;lift at 2 lit 3 5 speed 4 lit 1 0 1;lift at 6 down speed 9 speed 2;"
            + "person home 1 in 0;person home 1;person home 2 at 3 in 0;");
        int[][] want = {{2, 0, 3, 1, 5, 4, 1}, {6, 0, 0, 0, 0, 2, -1}};
        for (int l = 0; l < 2; l++) {
            for (int what = 0; what < 7; what++) Check.due("5: lift " + l + " " + what, x.lift(l, what), want[l][what]);
        }
        Check.due("5: no such lift", x.lift(2, 0), -8);
        Check.due("5: no such lift", x.lift(-1, 0), -8);
        Check.due("5: no such what", x.lift(0, 7), -8);
        Check.due("5: no such what", x.lift(0, -1), -8);
        AllPressed y = Check.with("house 9;lift at 4 lit 8 6 3 0;lift at 4 down lit 8 6 3 0;lift at 4 down lit 8 6;");
        Check.due("5: next up", y.lift(0, 6), 6);
        Check.due("5: next down", y.lift(1, 6), 3);
        Check.due("5: next the other way", y.lift(2, 6), 6);
        Check.due("5: it still goes down", y.lift(2, 3), 0);
    }

    private static void person() {
        AllPressed x = Check.with("house 7;lift at 2;person home 6 at 5 load 7 age 8 worth 9;person home 1 at 3 in 0;"
            + "person home 1 in 0 at 4;person home 0 load 1 load 2;");
        int[][] want = {{5, 0, -1, 6, 7, 8, 9}, {2, 0, 0, 1, 0, 0, 1}, {4, 0, -1, 1, 0, 0, 1}, {0, 0, -1, 0, 2, 0, 1}};
        for (int p = 0; p < 4; p++) {
            for (int what = 0; what < 7; what++) Check.due("6: person " + p + " " + what, x.person(p, what), want[p][what]);
        }
        Check.due("6: no such person", x.person(4, 0), -8);
        Check.due("6: no such person", x.person(-1, 0), -8);
        Check.due("6: no such what", x.person(0, 7), -8);
        Check.due("6: no such what", x.person(0, -1), -8);
    }

    private static void foot() {
        AllPressed x = Check.with("house 6;person home 3;");
        Check.due("7: up", x.foot(0, 1, 4), 30);
        Check.due("7: down", x.foot(0, 5, 0), 30);
        Check.due("7: both one", x.foot(0, 5, 5), 0);
        Check.due("7: no such person", x.foot(1, 0, 0), -2);
        Check.due("7: no such floor", x.foot(0, 6, 0), -2);
        Check.due("7: no such floor", x.foot(0, 0, -1), -2);
        AllPressed y = Check.with("house 6;foot : 1;foot : load * 100 + age * 10 + up + floor * floor;"
            + "person home 3 load 2 age 3;person home 1;");
        Check.due("7: its own words", y.foot(0, 1, 3), 232 + 235);
        Check.due("7: the floor it leaves, down", y.foot(0, 3, 1), 239 + 234);
        Check.due("7: another person", y.foot(1, 1, 3), 2 + 5);
    }

    private static int byLaw(String sum) {
        return Check.with("house 3;person home 1 load 7;foot : " + sum + ";").foot(0, 0, 1);
    }

    private static void laws() {
        Check.due("7: * ahead of +", byLaw("2 + 3 * 4"), 14);
        Check.due("7: * ahead of + behind it", byLaw("2 * 3 + 4"), 10);
        Check.due("7: - from the left", byLaw("100 - 10 - 1"), 89);
        Check.due("7: - and +", byLaw("100 - 10 + 1"), 91);
        Check.due("7: brackets", byLaw("100 - (10 + 1) * (2 - (1 - 3))"), 56);
        Check.due("7: 0 at least", byLaw("3 - 5"), 0);
        Check.due("7: 999 at most", byLaw("999 + 1"), 999);
        Check.due("7: words", byLaw("load * load - up"), 48);
        Check.due("7: * is kept", byLaw("999*999*2 - 999*999 - 999 - 500"), 500);
        Check.due("7: kept below, too", byLaw("(0 - 999) * 999 * 2 + 999 * 999 + 999 + 999 + 500"), 499);
        Check.due("7: + is kept", byLaw("999*999 + 999*999 - 999*999 - 999 - 900"), 100);
        Check.due("7: no int runs over", byLaw("999*999*2 * (999*999*2) - 999*999 - 999 - 900"), 100);
    }

    private static void stop() {
        AllPressed x = Check.with("house 5;lift at 0;lift at 1 stops 0;lift at 2 stops 99;");
        int[] want = {8, 0, 99};
        for (int l = 0; l < 3; l++) Check.due("8: as told", x.stop(l, 4, 11), want[l]);
        Check.due("8: no such lift", x.stop(3, 0, 0), -2);
        Check.due("8: no such floor", x.stop(0, 5, 0), -2);
        Check.due("8: lit", x.stop(0, 0, 0), -3);
        Check.due("8: lit", x.stop(0, 0, 12), -3);
        Check.due("8: one", x.stop(0, 0, 1), 8);
        AllPressed y = Check.with("house 5;stop : floor * 100 + lit * 10 + lift;stop : floor * 200 + lit * 10 + lift - 20;"
            + "lift at 0;lift at 1;");
        Check.due("8: by the law", y.stop(1, 3, 7), 651);
        Check.due("8: 0 at least", y.stop(0, 0, 1), 0);
        Check.due("8: kept", y.stop(1, 4, 11), 891);
        Check.due("8: 999 at most", Check.with("house 2;lift at 0;stop : 500 * lit;").stop(0, 0, 2), 999);
    }

    private static void calls() {
        AllPressed x = Check.with("house 3;calls 2 times 9;calls 0 times 7;calls 2 times 0;calls 2 times 99;");
        Check.due("9: calls", x.calls(0), 7);
        Check.due("9: none", x.calls(1), 0);
        Check.due("9: the later one", x.calls(2), 99);
        Check.due("9: no such floor", x.calls(3), -2);
        Check.due("9: no such floor", x.calls(-1), -2);
    }
}
