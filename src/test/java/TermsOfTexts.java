/** The Terms of the text: its lines, bounds, tokens and faults. */
final class TermsOfTexts {
    private TermsOfTexts() {}

    static void run() {
        length();
        lines();
        flags();
        sums();
        brackets();
        floors();
        lifts();
        lights();
        ways();
        places();
        people();
        calls();
        laterOnes();
        tokens();
        everyByte();
        firstFault();
        kindOne();
        kindTwo();
        kindThree();
        kindFour();
    }

    private static void length() {
        Doc.says(Doc.TERMS, "THE HOUSE is a TEXT of at most 900 bytes (without one: 2 FLOORS, no LIFTS, no PEOPLE)");
        String full = "house 12;" + " ".repeat(880) + "lift at 11;";
        Doc.reads(full, 2);
        Doc.due("its last line", Check.with(full).lift(0, 0), 11);
        Doc.faulty(full.substring(0, 899) + "#", 1, 899);
        Doc.faulty(full.substring(0, 899) + " ", 2, 900);
        Doc.faulty("house 12;" + " ".repeat(887) + "lift", 2, 900);
        Doc.faulty("house" + " ".repeat(894) + "2", 2, 900);
        Doc.reads("house 2;" + "lift at 0;".repeat(3) + "foot:1;".repeat(123) + " ", 127);
        AllPressed x = new AllPressed();
        Doc.due("floors without one", x.count(0), 2);
        Doc.due("lifts without one", x.count(1), 0);
        Doc.due("people without one", x.count(2), 0);
    }

    private static void lines() {
        Doc.says(Doc.TERMS, "house N ; { LINE ; }");
        Doc.reads("house 2;", 1);
        Doc.reads("house 2;calls 0 times 1;", 2);
        Doc.faulty("house 2", 2, 7);
        Doc.faulty("house ;", 2, 6);
        Doc.faulty("house 2 2;", 2, 8);
        Doc.faulty("house 2;calls 0 times 1", 2, 23);
        Doc.faulty("house 2;;", 2, 8);
        Doc.says(Doc.TERMS, "LINE: lift at N { FLAG } | person home N { FLAG } | foot : SUM | stop : SUM | calls N times N.");
        Doc.reads("house 2;lift at 0;person home 0;foot:1;stop:1;calls 0 times 0;", 6);
        Doc.faulty("house 2;lift 0;", 2, 13);
        Doc.faulty("house 2;lift at;", 2, 15);
        Doc.faulty("house 2;lift home 0;", 2, 13);
        Doc.faulty("house 2;person 0;", 2, 15);
        Doc.faulty("house 2;person home;", 2, 19);
        Doc.faulty("house 2;person at 0;", 2, 15);
        Doc.faulty("house 2;foot 1;", 2, 13);
        Doc.faulty("house 2;foot:;", 2, 13);
        Doc.faulty("house 2;stop 1;", 2, 13);
        Doc.faulty("house 2;stop:;", 2, 13);
        Doc.faulty("house 2;calls times 1;", 2, 14);
        Doc.faulty("house 2;calls 0 1;", 2, 16);
        Doc.faulty("house 2;calls 0 times;", 2, 21);
        Doc.faulty("house 2;calls 0 times 1 1;", 2, 24);
        Doc.faulty("house 2;walls 0 times 1;", 2, 8);
        Doc.faulty("house 2;2;", 2, 8);
    }

    private static void flags() {
        Doc.says(Doc.TERMS, "FLAG: of a lift speed N | stops N | lit N { N } | down, of a person at N | in N | load N | age N"
            + " | worth N.");
        AllPressed x = Check.with("house 4;lift at 1 speed 4 stops 5 lit 0 2 3 down;"
            + "person home 3 load 6 age 7 worth 8 at 2;person home 2 in 0;");
        Doc.due("speed", x.lift(0, 5), 4);
        Doc.due("stops", x.stop(0, 0, 1), 5);
        Doc.due("lit", x.lift(0, 2), 13);
        Doc.due("down", x.lift(0, 3), 0);
        int[] person = {2, 0, -1, 3, 6, 7, 8};
        for (int what = 0; what < 7; what++) Doc.due("person " + what, x.person(0, what), person[what]);
        Doc.due("in", x.person(1, 2), 0);
        Doc.faulty("house 4;lift at 1 speed;", 2, 23);
        Doc.faulty("house 4;lift at 1 stops;", 2, 23);
        Doc.faulty("house 4;lift at 1 lit;", 2, 21);
        Doc.faulty("house 4;lift at 1 lit down;", 2, 22);
        Doc.faulty("house 4;lift at 1 down 1;", 2, 23);
        Doc.faulty("house 4;lift at 1 speed 4 5;", 2, 26);
        Doc.faulty("house 4;person home 3 at;", 2, 24);
        Doc.faulty("house 4;lift at 0;person home 3 in;", 2, 34);
        Doc.faulty("house 4;person home 3 load;", 2, 26);
        Doc.faulty("house 4;person home 3 age;", 2, 25);
        Doc.faulty("house 4;person home 3 worth;", 2, 27);
        Doc.faulty("house 4;person home 3 at 1 1;", 2, 27);
    }

    /** Up from floor 2, by a person with load 7 and age 5. */
    private static int footBy(String sum) {
        return Check.with("house 4;person home 1 load 7 age 5;foot:" + sum + ";").foot(0, 2, 3);
    }

    /** Lift 1 at floor 2 with 3 lit. */
    private static int stopBy(String sum) {
        return Check.with("house 4;lift at 0;lift at 0;stop:" + sum + ";").stop(1, 2, 3);
    }

    private static void sums() {
        Doc.says(Doc.TERMS, "SUM: TERM { + TERM | - TERM }; TERM: ATOM { * ATOM }; ATOM: N, ( SUM ), in foot up, load, age, floor,"
            + " in stop floor, lit, lift.");
        String[] sums = {"0", "7", "7-2-1", "7-2+1", "2+3*4", "2*3+4", "2*3*4", "2*(3+4)", "(3+4)*2", "9-(4-3)", "9-(4+3)",
            "9-2*3-1", "(((5)))", "(1+1)*(2+2)-(1+2)", "1+2*3-4*1+5"};
        int[] want = {0, 7, 4, 6, 14, 10, 24, 14, 14, 8, 2, 2, 5, 5, 8};
        for (int i = 0; i < sums.length; i++) {
            Doc.due("foot:" + sums[i], footBy(sums[i]), want[i]);
            Doc.due("stop:" + sums[i], stopBy(sums[i]), want[i]);
        }
        Doc.due("up", footBy("up"), 1);
        Doc.due("load", footBy("load"), 7);
        Doc.due("age", footBy("age"), 5);
        Doc.due("floor of foot", footBy("floor"), 2);
        Doc.due("floor of stop", stopBy("floor"), 2);
        Doc.due("lit", stopBy("lit"), 3);
        Doc.due("lift", stopBy("lift"), 1);
        String[] faulty = {"+1", "-1", "*1", ")", "1+", "1-", "1*", "1 1", "()", "(1", "(1+1", "1)", "1+*1", "(1)(1)", "1(1)",
            "1 up", "1+)", "(1+)", ":", "1:"};
        int[] places = {0, 0, 0, 0, 2, 2, 2, 2, 1, 2, 4, 1, 2, 3, 1, 2, 2, 3, 0, 1};
        for (int i = 0; i < faulty.length; i++) {
            Doc.faulty("house 2;foot:" + faulty[i] + ";", 2, 13 + places[i]);
            if (!faulty[i].contains("up")) Doc.faulty("house 2;stop:" + faulty[i] + ";", 2, 13 + places[i]);
        }
    }

    private static void brackets() {
        Doc.says(Doc.TERMS, "At most six ( within one another.");
        Doc.due("six", footBy("((((((1))))))"), 1);
        Doc.due("six, not the last", footBy("(1+(1+(1+(1+(1+(1+1))))))"), 7);
        Doc.due("six on the left", footBy("((((((1+1)*2+1)*2+1)*2+1)*2+1)*2+1)"), 95);
        Doc.due("six, and products", footBy("2*(3+2*(3+2*(3+2*(3+2*(3+2*(1+1))))))"), 314);
        Doc.due("many behind one another", footBy("(1)+(1)+(1)+(1)+(1)+(1)+(1)+(1)"), 8);
        Doc.due("six again behind six", footBy("(((((" + "(1)+(1)" + ")))))+((((((1))))))"), 3);
        Doc.faulty("house 2;foot:(((((((1)))))));", 4, 19);
        Doc.faulty("house 2;stop:(((((((1)))))));", 4, 19);
        Doc.faulty("house 2;foot:(((((" + "((1))" + ")))));", 4, 19);
        Doc.faulty("house 2;foot:((((((1+(", 4, 21);
        Doc.faulty("house 2;foot:((((((1(", 2, 20);
    }

    private static void floors() {
        Doc.says(Doc.TERMS, "house: FLOORS, 2 to 12, numbered from 0 on.");
        for (int n : new int[] {0, 1, 13, 99, 100, 999}) Doc.faulty("house " + n + ";", 3, 6);
        for (int n = 2; n <= 12; n++) {
            AllPressed x = Check.with("house " + n + ";lift at " + (n - 1) + ";person home 0;");
            Doc.due("floors of " + n, x.count(0), n);
            Doc.due("the lowest of " + n, x.calls(0), 0);
            Doc.due("below it", x.calls(-1), -2);
            Doc.due("the highest of " + n, x.calls(n - 1), 0);
            Doc.due("above it", x.calls(n), -2);
            Doc.faulty("house " + n + " ;lift at " + n + ";", 3, n < 10 ? 17 : 18);
        }
    }

    private static void lifts() {
        Doc.says(Doc.TERMS, "lift: its FLOOR; SPEED, seconds a floor, 1 to 60 (3); stops, seconds, 0 to 99 (8)");
        for (int n : new int[] {0, 61, 100, 999}) Doc.faulty("house 2;lift at 0 speed " + n + ";", 3, 24);
        for (int n : new int[] {100, 999}) Doc.faulty("house 2;lift at 0 stops " + n + ";", 3, 24);
        Doc.faulty("house 2;lift at 2;", 3, 16);
        AllPressed x = Check.with("house 3;lift at 0 lit 2 speed 1 stops 0;lift at 0 lit 2 speed 60 stops 99;lift at 0 lit 2;");
        int[] speeds = {1, 60, 3};
        int[] stops = {0, 99, 8};
        for (int l = 0; l < 3; l++) {
            Doc.due("speed", x.lift(l, 5), speeds[l]);
            Doc.due("seconds a floor", x.comes(l, 2), 2 * speeds[l]);
            Doc.due("stops", x.restsBy(l), 2 * speeds[l] + stops[l]);
        }
    }

    private static void lights() {
        Doc.says(Doc.TERMS, "FLOORS that are lit, not its own one (twice the same: nothing more; a later lit strikes)");
        Doc.due("none", Check.with("house 5;lift at 2;").lift(0, 2), 0);
        AllPressed x = Check.with("house 5;lift at 2 lit 0 4 0 4 4;");
        Doc.due("twice the same", x.lift(0, 2), 17);
        Doc.due("twice the same", x.stops(0), 2);
        Doc.due("a later one", Check.with("house 5;lift at 2 lit 0 1 lit 3 lit 4 3;").lift(0, 2), 24);
        Doc.due("all others", Check.with("house 12;lift at 11 lit 0 1 2 3 4 5 6 7 8 9 10;").lift(0, 2), 2047);
        Doc.faulty("house 5;lift at 2 lit 2;", 3, 22);
        Doc.faulty("house 5;lift at 2 lit 0 1 2;", 3, 26);
        Doc.faulty("house 5;lift at 2 lit 2 lit 1;", 3, 22);
        Doc.faulty("house 5;lift at 2 lit 1 lit 2;", 3, 28);
        Doc.faulty("house 5;lift at 0 lit 0;", 3, 22);
        Doc.faulty("house 5;lift at 2 lit 5;", 3, 22);
    }

    private static void ways() {
        Doc.says(Doc.TERMS, "down: it goes down (else up); numbered from 0 on, 3 at most.");
        AllPressed x = Check.with("house 3;lift at 1 down;lift at 2;lift at 0 down down;");
        int[][] want = {{1, 0}, {2, 1}, {0, 0}};
        for (int l = 0; l < 3; l++) {
            Doc.due("floor of " + l, x.lift(l, 0), want[l][0]);
            Doc.due("way of " + l, x.lift(l, 3), want[l][1]);
        }
        Doc.due("below 0", x.lift(-1, 0), -8);
        Doc.due("above 2", x.lift(3, 0), -8);
        Doc.due("how many", x.count(1), 3);
        Doc.faulty("house 3;lift at 1 down;lift at 2;lift at 0 down down;lift at 1;", 4, 53);
    }

    private static void places() {
        Doc.says(Doc.TERMS, "person: HOME; at a FLOOR (0), or in a LIFT told ahead (the later one of at, in strikes)");
        AllPressed x = Check.with("house 5;lift at 3;person home 1;person home 4 in 0 at 2;person home 0 at 2 in 0;"
            + "person home 1 at 0;person home 1 at 4;person home 1 in 0 at 0;person home 1 at 2 in 0 at 1 in 0;");
        int[][] want = {{0, -1, 1}, {2, -1, 4}, {3, 0, 0}, {0, -1, 1}, {4, -1, 1}, {0, -1, 1}, {3, 0, 1}};
        for (int p = 0; p < want.length; p++) {
            Doc.due("floor of " + p, x.person(p, 0), want[p][0]);
            Doc.due("lift of " + p, x.person(p, 2), want[p][1]);
            Doc.due("home of " + p, x.person(p, 3), want[p][2]);
        }
        Doc.faulty("house 5;person home 5;", 3, 20);
        Doc.faulty("house 5;person home 1 at 5;", 3, 25);
        Doc.faulty("house 5;person home 1 in 0;", 3, 25);
        Doc.faulty("house 5;person home 1 in 0;lift at 0;", 3, 25);
        Doc.faulty("house 5;lift at 0;person home 1 in 1;lift at 0;", 3, 35);
        Doc.reads("house 5;lift at 0;lift at 0;person home 1 in 1;lift at 0;", 5);
        Doc.faulty("house 5;lift at 0;lift at 0;lift at 0;person home 1 in 3;", 3, 55);
    }

    private static void people() {
        Doc.says(Doc.TERMS, "load, age 0 to 99 (0), worth 1 to 99 (1); numbered from 0 on, 8 at most.");
        StringBuilder text = new StringBuilder("house 9;person home 8;person home 7 load 99 age 98 worth 97;"
            + "person home 6 load 0 age 0 worth 1;person home 5 load 98 age 99 worth 99;");
        for (int p = 4; p < 8; p++) text.append("person home ").append(8 - p).append(";");
        AllPressed x = Check.with(text.toString());
        int[][] want = {{0, 0, 1}, {99, 98, 97}, {0, 0, 1}, {98, 99, 99}, {0, 0, 1}, {0, 0, 1}, {0, 0, 1}, {0, 0, 1}};
        for (int p = 0; p < 8; p++) {
            Doc.due("home of " + p, x.person(p, 3), 8 - p);
            for (int what = 4; what < 7; what++) Doc.due("person " + p + " " + what, x.person(p, what), want[p][what - 4]);
        }
        Doc.due("how many", x.count(2), 8);
        Doc.due("below 0", x.person(-1, 3), -8);
        Doc.due("above 7", x.person(8, 3), -8);
        Doc.faulty(text + "person home 0;", 4, text.length());
        Doc.faulty("house 2;person home 0 load 100;", 3, 27);
        Doc.faulty("house 2;person home 0 age 100;", 3, 26);
        Doc.faulty("house 2;person home 0 worth 0;", 3, 28);
        Doc.faulty("house 2;person home 0 worth 100;", 3, 28);
    }

    private static void calls() {
        Doc.says(Doc.TERMS, "calls: a FLOOR, how often, 0 to 99 (0; later ones of that FLOOR strike).");
        AllPressed x = Check.with("house 4;calls 3 times 99;calls 1 times 7;calls 1 times 5;calls 2 times 4;calls 2 times 0;");
        int[] want = {0, 5, 0, 99};
        for (int f = 0; f < 4; f++) Doc.due("calls " + f, x.calls(f), want[f]);
        Doc.faulty("house 4;calls 4 times 1;", 3, 14);
        Doc.faulty("house 4;calls 3 times 100;", 3, 22);
        Doc.reads("house 4;calls 0 times 0;", 2);
    }

    private static void laterOnes() {
        Doc.says(Doc.TERMS, "Later ones of foot, stop, of a flag's word strike.");
        AllPressed x = Check.with("house 4;foot:up;foot:7;stop:lit;stop:9;lift at 1 speed 4 speed 5 lit 2 speed 6 down;lift at 2;"
            + "person home 1 at 1 at 3 load 1 load 2 age 3 age 4 worth 5 worth 6;person home 1 in 0 in 1;");
        Doc.due("foot", x.foot(0, 0, 1), 7);
        Doc.due("stop", x.stop(0, 0, 3), 9);
        Doc.due("speed", x.lift(0, 5), 6);
        int[] want = {3, 0, -1, 1, 2, 4, 6};
        for (int what = 0; what < 7; what++) Doc.due("person " + what, x.person(0, what), want[what]);
        Doc.due("in", x.person(1, 2), 1);
        Doc.due("in", x.person(1, 0), 2);
        AllPressed y = Check.with("house 4;lift at 1 stops 4 stops 0 stops 5;foot:7;foot:floor;foot:(1+1)*load;person home 1 load 3;");
        Doc.due("stops", y.stop(0, 0, 3), 5);
        Doc.due("foot", y.foot(0, 0, 1), 6);
        AllPressed z = Check.with("house 4;lift at 1;foot:((1)+(2))*3;foot:4;person home 1;stop:1+2+3;stop:5;");
        Doc.due("a shorter one", z.foot(0, 0, 1), 4);
        Doc.due("a shorter one", z.stop(0, 0, 1), 5);
    }

    private static void tokens() {
        Doc.says(Doc.TERMS, "TOKENS, as long as they go on, between them blanks (10, 32): words (small letters), N (1 to 3 digits),"
            + " the signs ; : + - * ( ).");
        Doc.reads("house12;lift at0speed60lit1 2down;person home0in 0;foot:up+load*age-floor*(1);calls3times4;", 5);
        Doc.reads("\n \nhouse\n2\n;\n \n", 1);
        Doc.reads("house 2;foot : 1 + 2 * ( 3 - 1 ) ;", 2);
        Doc.due("one digit", Check.with("house 9;").count(0), 9);
        Doc.due("two digits", Check.with("house 09;").count(0), 9);
        Doc.due("three digits", Check.with("house 009;").count(0), 9);
        Doc.faulty("house 0009;", 1, 6);
        Doc.faulty("house 1 2;", 3, 6);
        Doc.faulty("housea 2;", 2, 0);
        Doc.faulty("housez 2;", 2, 0);
        Doc.faulty("hous 2;", 2, 0);
        Doc.faulty("ahouse 2;", 2, 0);
        Doc.faulty("mouse 2;", 2, 0);
        Doc.faulty("hous\ne 2;", 2, 0);
        Doc.faulty("house 2;liftat 0;", 2, 8);
        Doc.faulty("house 2;lift a t 0;", 2, 13);
        Doc.faulty("house 2;lift at 0 speed 1 2;", 2, 26);
        Doc.faulty("houSe 2;", 2, 0);
        Doc.faulty("HOUSE 2;", 1, 0);
        Doc.due("all digits", Check.with("house 2;person home 0 load 12 age 34;person home 0 load 56 age 78;person home 0 load 90;")
            .person(1, 4), 56);
    }

    /** At the place of a line's first token, each byte there is. */
    private static void everyByte() {
        for (int b = 0; b < 256; b++) {
            boolean isBlank = b == 10 || b == 32;
            boolean begins = b >= 'a' && b <= 'z' || b >= '0' && b <= '9' || b > 0 && ";:+-*()".indexOf(b) >= 0;
            Doc.faulty("house 3;" + (char) b + ";", isBlank || begins ? 2 : 1, isBlank ? 9 : 8);
            if (!isBlank && !begins) {
                Doc.faulty("house 3;lift" + (char) b, 1, 12);
                Doc.faulty("house 3" + (char) b, 1, 7);
            }
        }
    }

    private static void firstFault() {
        Doc.says(Doc.TERMS, "FAULTS, the first along the text, of one TOKEN the least kind");
        Doc.faulty("house 13;#", 3, 6);
        Doc.faulty("house 3;boy #", 2, 8);
        Doc.faulty("house 3;# boy", 1, 8);
        Doc.faulty("house 3;lift at 3;boy;", 3, 16);
        Doc.faulty("house 3;boy;lift at 3;", 2, 8);
        Doc.faulty("house 3;lift at 0;lift at 0;lift at 0;lift at 9 #", 4, 38);
        Doc.faulty("house 3;lift at 0;lift at 0;lift at 9;lift at 0;", 3, 36);
        Doc.faulty("house 3;lift at 0;lift at 0;lift at 0;# lift at 0;", 1, 38);
        Doc.faulty("house 1000;", 1, 6);
        Doc.faulty("house 3;lift at 0 lit 1 0000;", 1, 24);
        Doc.faulty("house 3;lift 1234;", 1, 13);
        Doc.faulty("house 3;lift at 0 #;", 1, 18);
        Doc.faulty("house 3;person home 0 load #;", 1, 27);
        Doc.faulty("house 3;foot:#;", 1, 13);
        Doc.faulty("house 3;foot:1#;", 1, 14);
        Doc.faulty("house 3;foot:((((((#", 1, 19);
        Doc.faulty("#", 1, 0);
    }

    private static void kindOne() {
        Doc.says(Doc.TERMS, "1 no TOKEN begins so (4 digits and more: at their first).");
        Doc.faulty("house 3;lift at 0 speed 0001;", 1, 24);
        Doc.faulty("house 3;lift at 0 speed 00000000000000000001;", 1, 24);
        Doc.faulty("house 3;lift at 0 speed 4294967297;", 1, 24);
        Doc.faulty("house 3;foot:1234", 1, 13);
        Doc.faulty("1234", 1, 0);
        Doc.faulty("house 3;foot:12 1234;", 1, 16);
        Doc.faulty("house 3 /", 1, 8);
        Doc.faulty("house 3;\t", 1, 8);
    }

    private static void kindTwo() {
        Doc.says(Doc.TERMS, "2 it can't stand there (the end: the text's length; house must be told first, and once; a word of the"
            + " other law; a flag of the other sort).");
        Doc.faulty("", 2, 0);
        Doc.faulty("   ", 2, 3);
        Doc.faulty("house", 2, 5);
        Doc.faulty("house 3", 2, 7);
        Doc.faulty("house 3 \n", 2, 9);
        Doc.faulty("house 3;lift at 0  \n", 2, 20);
        Doc.faulty("house 3;lift", 2, 12);
        Doc.faulty("house 3;foot", 2, 12);
        Doc.faulty("house 3;foot:1+ ", 2, 16);
        Doc.faulty("lift at 0;house 3;", 2, 0);
        Doc.faulty("3;", 2, 0);
        Doc.faulty("house 3;house 3;", 2, 8);
        Doc.faulty("house 3;lift at 0;house 3;", 2, 18);
        for (String word : new String[] {"lit", "lift", "speed", "house"}) Doc.faulty("house 3;foot:" + word + ";", 2, 13);
        for (String word : new String[] {"up", "load", "age", "down"}) Doc.faulty("house 3;stop:" + word + ";", 2, 13);
        String[] ofPeople = {"at 0", "in 0", "load 1", "age 1", "worth 1", "home 0"};
        for (String flag : ofPeople) Doc.faulty("house 3;lift at 0 " + flag + ";", 2, 18);
        String[] ofLifts = {"speed 1", "stops 1", "lit 1", "down", "home 1"};
        for (String flag : ofLifts) Doc.faulty("house 3;person home 0 " + flag + ";", 2, 22);
    }

    private static void kindThree() {
        Doc.says(Doc.TERMS, "3 an N out of its bounds (a LIFT that isn't told; its own FLOOR lit).");
        Doc.faulty("house 13;", 3, 6);
        Doc.faulty("house 3;calls 3 times 1;", 3, 14);
        Doc.faulty("house 3;lift at 0;person home 0 in 1;", 3, 35);
        Doc.faulty("house 3;lift at 1 lit 1;", 3, 22);
        Doc.faulty("house 3;lift at 1 lit 0 2 1 0;", 3, 26);
        Doc.reads("house 3;lift at 1 lit 0 2;lift at 0 lit 1;", 3);
        Doc.reads("house 3;foot:999;stop:999;", 3);
    }

    private static void kindFour() {
        Doc.says(Doc.TERMS, "4 the first TOKEN of a 4th lift, a 9th person; a seventh (.");
        String lifts = "lift at 0;".repeat(3);
        String people = "person home 1;".repeat(8);
        Doc.reads("house 3;" + lifts + people, 12);
        Doc.faulty("house 3;" + lifts + "lift", 4, 38);
        Doc.faulty("house 3;" + lifts + " lift at 9;", 4, 39);
        Doc.faulty("house 3;" + lifts + people + "lift at 0;", 4, 150);
        Doc.faulty("house 3;" + people + "person", 4, 120);
        Doc.faulty("house 3;" + people + "person 7;", 4, 120);
        Doc.faulty("house 3;" + lifts + people + "person home 0;", 4, 150);
        Doc.faulty("house 3;foot:1+(((((( (", 4, 22);
    }
}
