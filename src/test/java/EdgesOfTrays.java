/** Promises 41 to 50, sentence by sentence. */
final class EdgesOfTrays {
    private static final int[] WILD = {-1, Integer.MIN_VALUE, Integer.MAX_VALUE, 1 << 16, -(1 << 16)};

    private EdgesOfTrays() {}

    static void run() {
        seen();
        seenTwelve();
        sure();
        look();
        odd();
        codesOfAllFour();
        numbers();
        write();
        lists();
        image();
        restore();
        count();
    }

    /** From 2 upwards, 3 a floor, 8 a stop. */
    private static AllPressed six(long... twos) {
        AllPressed x = Check.with("house 6;lift at 2 lit 3;lift at 5;");
        Check.tray(x, 0, 3, twos);
        return x;
    }

    private static void seen() {
        Doc.says(41, "SEEN: how many sets.");
        Doc.due("4 and not 3", six(4, 6).seen(0, 0), 8);
        Doc.due("3, whatever else", six(3, 3).seen(0, 0), 16);
        Doc.due("down: none above", six(0, 6).seen(0, 0), 1);
        Doc.due("down: none above", six(1, 3).seen(0, 0), 2);
        Doc.due("then down", six(4, 6, 1, 23).seen(0, 0), 2);
        Doc.due("all told", six(4, 6, 1, 23, 0, 34).seen(0, 0), 1);
        Doc.due("twice the same", six(4, 6, 4, 14).seen(0, 0), 0);
        Doc.due("its own", six(2, 0).seen(0, 0), 0);
        Doc.due("a second too early", six(4, 5).seen(0, 0), 0);
        Doc.due("a second too late", six(4, 7).seen(0, 0), 0);
        Doc.due("second 0", six(4, 0).seen(0, 0), 0);
        Doc.due("the greatest second", six(4, Long.MAX_VALUE).seen(0, 0), 0);
        Doc.due("6 but for 32 bits", six(4, (1L << 32) + 6).seen(0, 0), 0);
        Doc.due("lights now don't count", six(4, 6).lift(0, 2), 8);
        Doc.due("another lift", six(4, 3).seen(0, 1), 16);
        AllPressed none = Check.with("house 6;lift at 2;");
        Check.tray(none, 0, 0, 0, 6);
        Doc.due("none is lit now", none.seen(0, 0), 1);
        none.press(0, 0);
        none.rides(0);
        Check.tray(none, 0, 0, 1, 17);
        Doc.due("from where and when it is: 14", none.seen(0, 0), 16);
    }

    private static void seenTwelve() {
        AllPressed x = Check.with("house 12;lift at 5;stop:lit;");
        Check.tray(x, 0, 1, 6, 3);
        Doc.due("of 2048", x.seen(0, 0), 1024);
        // It went at 9, so six were lit as it came to 6: 7 and four of the other nine.
        Check.tray(x, 0, 1, 6, 3, 7, 12);
        Doc.due("of six lit, 6 and 7", x.seen(0, 0), 126);
        Check.tray(x, 0, 1, 11, 18, 4, 40);
        // From 11 it went at 19: one was lit. It can't have gone on.
        Doc.due("by the law", x.seen(0, 0), 0);
        Check.tray(x, 0, 1, 11, 18, 4, 18 + 2 + 21);
        Doc.due("two were lit", x.seen(0, 0), 1);
        AllPressed top = Check.with("house 12;lift at 11 speed 1 stops 0;");
        Check.tray(top, 0, 1, 10, 1, 9, 2, 8, 3, 7, 4, 6, 5, 5, 6, 4, 7, 3, 8);
        Doc.due("eight twos, three are open", top.seen(0, 0), 8);
        Doc.due("sure of eight", top.sure(0, 0), 2047 - 7);
        Doc.due("the lowest that is open", top.look(0, 0), 0);
        AllPressed two = Check.with("house 2;lift at 1;");
        Check.tray(two, 0, 1, 0, 3);
        Doc.due("the only other floor", two.seen(0, 0), 1);
        Doc.due("the only other floor", two.look(0, 0), 0);
        Check.tray(two, 0, 1, 0, 4);
        Doc.due("no set", two.seen(0, 0), 0);
        Check.tray(two, 0, 1, 0, 3, 1, 14);
        Doc.due("its own isn't lit", two.seen(0, 0), 0);
    }

    private static void sure() {
        Doc.says(42, "FLOORS that were lit in all of them (without any: 0), as bits.");
        Doc.due("4", six(4, 6).sure(0, 0), 16);
        Doc.due("0", six(0, 6).sure(0, 0), 1);
        Doc.due("5", six(5, 9).sure(0, 0), 32);
        Doc.due("both", six(4, 6, 1, 23).sure(0, 0), 18);
        Doc.due("three", six(4, 6, 1, 23, 0, 34).sure(0, 0), 19);
        Doc.due("without any", six(4, 7).sure(0, 0), 0);
        AllPressed x = Check.with("house 5;lift at 0 speed 1;stop : lit * 10;");
        Check.tray(x, 2, 2, 1, 1, 4, 24);
        Doc.due("by the law: 1, and 4 alone", x.sure(2, 0), 18);
        AllPressed only = Check.with("house 4;lift at 0;stop:lit;");
        Check.tray(only, 0, 2, 1, 3, 2, 9);
        Doc.due("3 as well: three were lit", only.sure(0, 0), 14);
    }

    private static void look() {
        Doc.says(43, "The FLOOR of which lit and not lit are most even among these (the lesser number is greatest), the lowest (not its own).");
        Doc.due("the lowest of like ones", six(4, 6).look(0, 0), 0);
        Doc.due("the one that is open", six(4, 6, 1, 23).look(0, 0), 0);
        Doc.due("5 is open", six(4, 6, 5, 17).look(0, 0), 0);
        Doc.due("down: 0 is open", six(1, 3).look(0, 0), 0);
        Doc.due("nothing is open: the lowest", six(4, 6, 1, 23, 0, 34).look(0, 0), 0);
        AllPressed x = Check.with("house 5;lift at 0 speed 1;stop : lit * 10;");
        Check.tray(x, 2, 2, 1, 1, 2, 32);
        Doc.due("3 or 4", x.look(2, 0), 3);
        Check.tray(x, 2, 2, 1, 1, 2, 42);
        Doc.due("nothing is open: the lowest but its own", x.look(2, 0), 1);
        AllPressed last = Check.with("house 5;lift at 0 speed 1;");
        Check.tray(last, 2, 2, 1, 1, 2, 10, 3, 19);
        Doc.due("the highest is open", last.look(2, 0), 4);
        AllPressed uneven = Check.with("house 6;lift at 0 speed 1;stop:(lit-3)*(lit-4)+5;");
        // Gone at 6: three or four were lit as it came to 1, 2 with it: one or two of 3, 4, 5: 3 and 3 sets, each floor in three.
        Check.tray(uneven, 2, 2, 1, 1, 2, 7);
        Doc.due("six sets", uneven.seen(2, 0), 6);
        Doc.due("like ones", uneven.look(2, 0), 3);
        Doc.says(43, "NONE: there are none; else as seen().");
        Doc.due("no sets", six(4, 7).look(0, 0), -1);
        Doc.due("else as seen", six(6, 0).look(0, 0), -3);
    }

    private static void odd() {
        Doc.says(44, "The first place (which two) that can't be behind those ahead.");
        Doc.due("the first", six(4, 7).odd(0, 0), 0);
        Doc.due("the first, its own", six(2, 0, 4, 6).odd(0, 0), 0);
        Doc.due("the second", six(4, 6, 3, 17).odd(0, 0), 1);
        Doc.due("the second, though the third could be", six(4, 6, 5, 18, 1, 37).odd(0, 0), 1);
        Doc.due("the third", six(4, 6, 5, 17, 3, 31).odd(0, 0), 2);
        Doc.due("the third, by a second", six(4, 6, 5, 17, 1, 38).odd(0, 0), 2);
        AllPressed top = Check.with("house 12;lift at 11 speed 1 stops 0;");
        Check.tray(top, 0, 1, 10, 1, 9, 2, 8, 3, 7, 4, 6, 5, 5, 6, 4, 7, 3, 9);
        Doc.due("the eighth", top.odd(0, 0), 7);
        Doc.says(44, "NONE: all can; else as seen().");
        Doc.due("all can", six(4, 6).odd(0, 0), -1);
        Doc.due("all can, by one set", six(4, 6, 1, 23, 0, 34).odd(0, 0), -1);
        Doc.due("else as seen", six(4, 6, 6, 17).odd(0, 0), -3);
    }

    private static void codesOfAllFour() {
        Doc.says(41, "-2: the TRAY, the LIFT; -6; -4: not 1 to 8 twos; -3: no such FLOOR, SECOND below 0.");
        for (int i : WILD) {
            codes(six(4, 6), i, 0, -2);
            codes(six(4, 6), 0, i, -2);
        }
        codes(six(4, 6), 4, 0, -2);
        codes(six(4, 6), 0, 2, -2);
        for (int tray = 1; tray < 4; tray++) codes(six(4, 6), tray, 0, -6);
        for (int size = 0; size <= 40; size++) {
            AllPressed x = six();
            x.numbers(0, 0, size);
            boolean isSome = size >= 2 && size <= 16 && size % 2 == 0;
            if (!isSome) codes(x, 0, 0, -4);
            else Doc.due("so many are some: " + size, x.seen(0, 0), 0);
        }
        codes(six(6, 0), 0, 0, -3);
        codes(six(-1, 0), 0, 0, -3);
        codes(six((1L << 32) + 4, 6), 0, 0, -3);
        codes(six(Long.MIN_VALUE, 6), 0, 0, -3);
        codes(six(4, -1), 0, 0, -3);
        codes(six(4, Long.MIN_VALUE), 0, 0, -3);
        codes(six(4, 6, 5, 17, 1, 37, 0, 48, 4, 6, 4, 6, 4, 6, 6, 6), 0, 0, -3);
        codes(six(4, 7, 5, -1), 0, 0, -3);
        codes(six(5, -1), 0, 1, -3);
        Doc.due("floor 5 and second 0 are some", six(5, 0).seen(0, 0), 0);
        Doc.due("floor 0 is some", six(0, 0).seen(0, 0), 0);
        Doc.says(42, "Codes as seen().");
        Doc.due("as seen", six(6, 0).sure(0, 0), -3);
        Doc.due("as seen", six(4).sure(0, 0), -4);
    }

    private static void codes(AllPressed x, int tray, int l, int want) {
        Doc.due("seen(" + tray + ", " + l + ")", x.seen(tray, l), want);
        Doc.due("sure(" + tray + ", " + l + ")", x.sure(tray, l), want);
        Doc.due("look(" + tray + ", " + l + ")", x.look(tray, l), want);
        Doc.due("odd(" + tray + ", " + l + ")", x.odd(tray, l), want);
    }

    private static void numbers() {
        Doc.says(45, "A TRAY has n numbers of a sort, all 0 (in place of another one): 0.");
        AllPressed x = Check.with("house 9;lift at 4;lift at 5;");
        for (int tray = 0; tray < 4; tray++) {
            for (int sort = 0; sort < 4; sort++) {
                Doc.due("forty", x.numbers(tray, sort, 40), 0);
                Doc.due("the last", x.write(tray, 39, 1), 1);
                Doc.due("one", x.numbers(tray, sort, 1), 0);
                Doc.due("no second", x.write(tray, 1, 1), -7);
                Doc.due("none", x.numbers(tray, sort, 0), 0);
                Doc.due("no first", x.write(tray, 0, 1), -7);
            }
        }
        Check.tray(x, 1, 1, 1, 2, 3);
        Doc.due("three", x.perform(1), 3);
        Doc.due("in place of another one", x.numbers(1, 0, 2), 0);
        // 0 is pressed, and then can't be again.
        Doc.due("all 0", x.judge(1, 0), 1);
        Doc.due("all 0", x.judge(1, 3), 4);
        Doc.due("in place of itself", x.numbers(1, 3, 3), 0);
        Doc.due("none of before is there", x.judge(1, 0), 1);
        Doc.due("the other trays stay", x.numbers(2, 1, 1), 0);
        Doc.due("the other trays stay", x.write(1, 2, 7), 7);
        Doc.says(45, "-2: no such TRAY, sort; -3, and the TRAY stays: n is below 0 or above 40.");
        for (int i : WILD) {
            Doc.due("tray " + i, x.numbers(i, 0, 1), -2);
            Doc.due("sort " + i, x.numbers(1, i, 1), -2);
            Doc.due("n " + i, x.numbers(1, 0, i), -3);
        }
        Doc.due("tray 4", x.numbers(4, 0, 1), -2);
        Doc.due("sort 4", x.numbers(1, 4, 1), -2);
        Doc.due("41", x.numbers(1, 0, 41), -3);
        Doc.due("the tray stays", x.write(1, 2, 1L << 50), 1L << 50);
        Doc.due("a missing one stays missing", new AllPressed().numbers(0, 0, 41), -3);
        AllPressed y = new AllPressed();
        y.numbers(0, 0, 41);
        Doc.due("a missing one stays missing", y.perform(0), -6);
    }

    private static void write() {
        Doc.says(46, "Number i of a TRAY is v, cut to its sort: as it is there.");
        AllPressed x = new AllPressed();
        long[] written = {127, 128, 255, 256, -128, -129, 32767, 32768, 65535, 65536, -32769, 2147483647L, 2147483648L, 4294967295L, 4294967296L,
            -2147483649L, Long.MAX_VALUE, Long.MIN_VALUE};
        long[][] want = {
            {127, -128, -1, 0, -128, 127, -1, 0, -1, 0, -1, -1, 0, -1, 0, -1, -1, 0},
            {127, 128, 255, 256, -128, -129, 32767, -32768, -1, 0, 32767, -1, 0, -1, 0, -1, -1, 0},
            {127, 128, 255, 256, -128, -129, 32767, 32768, 65535, 65536, -32769, 2147483647, -2147483648, -1, 0, 2147483647, -1, 0}, written};
        for (int sort = 0; sort < 4; sort++) {
            x.numbers(sort, sort, 40);
            for (int i = 0; i < written.length; i++) {
                Doc.due(written[i] + " of sort " + sort, x.write(sort, i, written[i]), want[sort][i]);
            }
        }
        AllPressed y = Check.with("house 9;lift at 4;");
        Check.tray(y, 0, 0, 257, 258);
        Doc.due("as it is there: 1 and 2 are pressed", y.perform(0), 2);
        Doc.due("as it is there", y.lift(0, 2), 6);
        y.write(0, 1, 3);
        Doc.due("number 0 stays", y.judge(0, 0), 0);
        Doc.says(46, "-2: no such TRAY; -6; -7.");
        for (int i : WILD) {
            Doc.due("tray " + i, x.write(i, 0, 1), -2);
            Doc.due("number " + i, x.write(0, i, 1), -7);
        }
        Doc.due("tray 4", x.write(4, 0, 1), -2);
        Doc.due("number 40", x.write(0, 40, 1), -7);
        Doc.due("number 2 of 2", y.write(0, 2, 1), -7);
        for (int tray = 1; tray < 4; tray++) Doc.due("missing", y.write(tray, 0, 1), -6);
        Doc.due("missing ahead of number", y.write(1, -1, 1), -6);
    }

    /** Comes to 5 at 60, to 7 at 200, to 0 at 640. */
    private static final String THREE_STOPS = "house 9;lift at 4 lit 0 7 5 speed 60 stops 20;lift at 1;";

    private static void lists() {
        Doc.says(47, "STOPS of a LIFT to come, each as a FLOOR and a SECOND, come into a TRAY, as far as it has places: how many places.");
        for (int n = 0; n <= 40; n++) {
            AllPressed x = Check.with(THREE_STOPS);
            x.numbers(3, 2, n);
            for (int i = 0; i < n; i++) x.write(3, i, 2000);
            Doc.due("places of " + n, x.lists(3, 0), Math.min(n, 6));
            Doc.due("others stay: a ride can be", n > 6 && n < 10 ? judgedBehindSix(x) : -1, -1);
        }
        AllPressed x = Check.with(THREE_STOPS);
        x.numbers(3, 1, 6);
        x.lists(3, 0);
        Doc.due("as seen", x.seen(3, 0), 1);
        Doc.due("its lights", x.sure(3, 0), 161);
        x.numbers(3, 0, 6);
        x.lists(3, 0);
        Doc.due("cut to 8 bits: 200 is below 0", x.seen(3, 0), -3);
        Check.tray(x, 3, 1, 0, 0);
        Doc.due("a tray of two", x.lists(3, 0), 2);
        Doc.due("one stop", x.sure(3, 0), 32);
        Check.tray(x, 3, 1, 0, 0, 0, 0);
        Doc.due("of a lift that rests", x.lists(3, 1), 0);
        AllPressed eleven = Check.with("house 12;lift at 0 lit 1 2 3 4 5 6 7 8 9 10 11;");
        eleven.numbers(0, 1, 40);
        Doc.due("eleven stops", eleven.lists(0, 0), 22);
        eleven.numbers(0, 1, 21);
        Doc.due("a floor without its second", eleven.lists(0, 0), 21);
        Doc.says(47, "-2: the TRAY, the LIFT; -6.");
        for (int i : WILD) {
            Doc.due("tray " + i, x.lists(i, 0), -2);
            Doc.due("lift " + i, x.lists(3, i), -2);
        }
        Doc.due("tray 4", x.lists(4, 0), -2);
        Doc.due("lift 2", x.lists(3, 2), -2);
        for (int tray = 0; tray < 3; tray++) Doc.due("missing", x.lists(tray, 0), -6);
        Doc.due("missing, of a lift that rests", x.lists(0, 1), -6);
    }

    /** The first place that can't be, once the first six are lights of lift 1; behind them are rides of lift 0, which can be. */
    private static int judgedBehindSix(AllPressed x) {
        for (int i = 0; i < 6; i++) x.write(3, i, 102 + i);
        return x.judge(3, 0);
    }

    private static void image() {
        Doc.says(48, "An IMAGE is made: 0. -2.");
        AllPressed x = Check.with("house 5;lift at 0 lit 3;person home 3 in 0;");
        x.rides(0);
        for (int i = 0; i < 2; i++) Doc.due("image " + i, x.image(i), 0);
        Doc.due("can still be undone", x.count(6), 1);
        Doc.due("can still be undone", x.undo(1), 0);
        Doc.due("the image isn't", x.restore(1), 0);
        Doc.due("the image isn't", x.lift(0, 0), 3);
        x.press(0, 1);
        Doc.due("made again", x.image(1), 0);
        x.pressOff(0, 1);
        x.restore(0);
        Doc.due("the other one stays", x.lift(0, 2), 0);
        x.restore(1);
        Doc.due("in place of the former", x.lift(0, 2), 2);
        AllPressed blank = new AllPressed();
        Doc.due("of a new object", blank.image(0), 0);
        Check.tell(blank, "house 9;lift at 2;");
        Doc.due("of a new object", blank.restore(0), 0);
        Doc.due("of a new object", blank.count(0), 2);
        Doc.due("of a new object", blank.count(8), 0);
        for (int i : WILD) Doc.due("image " + i, x.image(i), -2);
        Doc.due("image 2", x.image(2), -2);
    }

    private static void restore() {
        Doc.says(49, "All that is in an IMAGE is as it was: 0.");
        String text = "house 12;lift at 1 lit 3 0 speed 9;lift at 2 down stops 4;lift at 3;foot:load+floor;stop:lit*7;calls 4 times 5;"
            + "person home 3 in 0 age 4 worth 6;person home 1 at 9 load 8;" + "person home 11 at 5;".repeat(6);
        AllPressed x = Check.with(text);
        x.evenings(3, 20);
        String before = State.of(x);
        x.image(1);
        Check.tell(x, "house 12;lift at 9 lit 1;lift at 8 lit 2 speed 5;lift at 7;foot:1;stop:2;calls 4 times 9;" + "person home 2;".repeat(8));
        x.rides(0);
        Check.feed(x, "house 4;");
        Check.tray(x, 2, 1, 2000);
        Doc.due("restored", x.restore(1), 0);
        Doc.same("as it was", State.of(x), before);
        Doc.due("calls", x.calls(4), 5);
        Doc.due("the tape stays", x.count(7), 20);
        Doc.due("trays stay", x.write(2, 0, 1), 1);
        Doc.due("nothing can be undone", x.undo(1), -3);
        x.evenings(4, 40);
        Doc.due("again", x.restore(1), 0);
        Doc.same("as it was", State.of(x), before);
        Doc.says(49, "-2; -5: none was made.");
        for (int i : WILD) Doc.due("image " + i, x.restore(i), -2);
        Doc.due("image 2", x.restore(2), -2);
        Doc.due("none was made", x.restore(0), -5);
        Doc.due("none was made", new AllPressed().restore(1), -5);
    }

    private static void count() {
        Doc.says(50, "0 FLOORS, 1 LIFTS, 2 people, 3 those in a LIFT, 4 those at HOME, in none, 5 lights lit, 6 calls that can be UNDONE, 7 bytes"
            + " on THE TAPE, 8 LINES.");
        AllPressed x = Check.with("house 5;lift at 0 lit 3;lift at 3 lit 1 2;person home 0 in 0;person home 4 in 1;person home 2 at 2;"
            + "person home 0;");
        Check.feed(x, "some, and more than 20");
        x.press(0, 4);
        int[] want = {5, 2, 4, 2, 2, 4, 1, 40, 7};
        for (int what = 0; what < 9; what++) Doc.due("count " + what, x.count(what), want[what]);
        StringBuilder text = new StringBuilder("house 12;");
        for (int l = 0; l < 3; l++) text.append("lift at 11 lit 0 1 2 3 4 5 6 7 8 9 10;");
        AllPressed full = Check.with(text + "person home 0;".repeat(8));
        int[] most = {12, 3, 8, 0, 8, 33, 0, 0, 12};
        for (int what = 0; what < 9; what++) Doc.due("count " + what, full.count(what), most[what]);
        AllPressed riding = Check.with(text + "person home 11 in 2;".repeat(8));
        Doc.due("all eight in one", riding.count(3), 8);
        Doc.due("at home, but in one", riding.count(4), 0);
        for (int k = 0; k < 12; k++) {
            Doc.due("calls that can be undone", riding.count(6), Math.min(k, 10));
            riding.rides(k % 3);
        }
        AllPressed taped = new AllPressed();
        for (int i = 0; i < 46; i++) {
            Doc.due("bytes", taped.count(7), Math.min(900, 20 * i));
            taped.feed(0, 0, 0, 0, 0);
        }
        Doc.says(50, "NONE for others.");
        for (int what : WILD) Doc.due("count " + what, x.count(what), -1);
        Doc.due("count 9", x.count(9), -1);
    }
}
