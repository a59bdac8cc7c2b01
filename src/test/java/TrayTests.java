/** Promises 41 to 50: lights that were lit, trays, images, counts. */
public final class TrayTests {
    public static void main(String[] args) {
        seen();
        seenByLaw();
        seenCodes();
        numbers();
        write();
        lists();
        images();
        count();
        Check.end();
    }

    /** From 2 upwards, 3 a floor, 8 a stop. */
    private static void seen() {
        AllPressed x = Check.with("house 6;lift at 2 lit 3;");
        Check.tray(x, 0, 2, 4, 6);
        // 4 is lit, 3 isn't; 0, 1, 5 are free.
        Check.due("41: one two", x.seen(0, 0), 8);
        Check.due("42: sure", x.sure(0, 0), 16);
        Check.due("43: the lowest of like ones", x.look(0, 0), 0);
        Check.due("44: all can", x.odd(0, 0), -1);
        Check.tray(x, 0, 1, 4, 6, 1, 6 + 8 + 9);
        Check.due("41: down then", x.seen(0, 0), 2);
        Check.due("42: both", x.sure(0, 0), 18);
        Check.due("43: the one that isn't known", x.look(0, 0), 0);
        Check.tray(x, 0, 1, 4, 6, 1, 23, 0, 34);
        Check.due("41: the only one", x.seen(0, 0), 1);
        Check.due("42: the only one", x.sure(0, 0), 19);
        Check.due("43: nothing is open: the lowest", x.look(0, 0), 0);
        Check.tray(x, 0, 1, 4, 6, 5, 17, 3, 31);
        Check.due("41: none", x.seen(0, 0), 0);
        Check.due("42: none", x.sure(0, 0), 0);
        Check.due("43: none", x.look(0, 0), -1);
        Check.due("44: the third two", x.odd(0, 0), 2);
        Check.tray(x, 0, 3, 4, 7);
        Check.due("44: the first, another second", x.odd(0, 0), 0);
        Check.tray(x, 0, 3, 2, 0);
        Check.due("44: its own floor", x.odd(0, 0), 0);
        Check.tray(x, 0, 3, 4, (1L << 32) + 6);
        Check.due("41: a long second", x.seen(0, 0), 0);
        Check.due("41: nothing is changed", x.lift(0, 2), 8);
        AllPressed y = Check.with("house 3;lift at 0;");
        Check.tray(y, 1, 0, 2, 6);
        Check.due("43: not its own", y.look(1, 0), 1);
    }

    private static void seenByLaw() {
        AllPressed x = Check.with("house 5;lift at 0 speed 1;stop : lit * 10;");
        Check.tray(x, 2, 2, 1, 1, 2, 32);
        // It went at 31: three were lit as it came to 1: 2 and one of 3, 4.
        Check.due("41: by the law", x.seen(2, 0), 2);
        Check.due("42: by the law", x.sure(2, 0), 6);
        Check.due("43: by the law", x.look(2, 0), 3);
        Check.tray(x, 2, 2, 1, 1, 2, 12);
        Check.due("44: it can't be", x.odd(2, 0), 1);
        x.press(0, 1);
        x.rides(0);
        Check.tray(x, 2, 2, 3, 13, 0, 26);
        Check.due("41: from its second on", x.seen(2, 0), 0);
        Check.tray(x, 2, 2, 3, 13, 0, 36);
        Check.due("41: from its second on", x.seen(2, 0), 1);
    }

    private static void seenCodes() {
        AllPressed x = Check.with("house 4;lift at 0;");
        codesOfSeen(x, 4, 0, -2);
        codesOfSeen(x, -1, 0, -2);
        codesOfSeen(x, 0, 1, -2);
        codesOfSeen(x, 0, 0, -6);
        int[] sizes = {0, 1, 3, 15, 17, 18, 40};
        for (int size : sizes) {
            x.numbers(0, 3, size);
            if (size > 0) x.write(0, 0, -1);
            codesOfSeen(x, 0, 0, -4);
        }
        Check.tray(x, 0, 2, 1, 3, 4, 9);
        codesOfSeen(x, 0, 0, -3);
        Check.tray(x, 0, 2, 1, 3, -1, 9);
        codesOfSeen(x, 0, 0, -3);
        Check.tray(x, 0, 2, 1, 3, 2, -1);
        codesOfSeen(x, 0, 0, -3);
        Check.tray(x, 0, 0, 1, 3, 2, 128);
        codesOfSeen(x, 0, 0, -3);
        x.numbers(0, 2, 16);
        Check.due("41: eight twos", x.seen(0, 0), 0);
        Check.due("44: eight twos", x.odd(0, 0), 0);
    }

    private static void codesOfSeen(AllPressed x, int tray, int l, int want) {
        Check.due("41: code", x.seen(tray, l), want);
        Check.due("42: code", x.sure(tray, l), want);
        Check.due("43: code", x.look(tray, l), want);
        Check.due("44: code", x.odd(tray, l), want);
    }

    private static void numbers() {
        AllPressed x = new AllPressed();
        Check.due("45: forty", x.numbers(3, 3, 40), 0);
        x.write(3, 39, 5);
        Check.due("45: too many, and it stays", x.numbers(3, 2, 41), -3);
        Check.due("45: it stays", x.write(3, 39, 1L << 40), 1L << 40);
        Check.due("45: below 0", x.numbers(3, 2, -1), -3);
        Check.due("45: no such tray", x.numbers(4, 0, 1), -2);
        Check.due("45: no such tray", x.numbers(-1, 0, 1), -2);
        Check.due("45: no such sort", x.numbers(0, 4, 1), -2);
        Check.due("45: no such sort ahead of n", x.numbers(0, -1, 99), -2);
        AllPressed y = Check.with("house 3;lift at 0;");
        Check.tray(y, 0, 1, 2000, 2000);
        y.numbers(0, 1, 2);
        Check.due("45: all 0 in place of another one", y.judge(0, 1), 2);
        Check.due("45: none at all", y.numbers(0, 0, 0), 0);
        Check.due("45: none, but not missing", y.perform(0), 0);
    }

    private static void write() {
        AllPressed x = new AllPressed();
        long[] want = {-1, -257, -16843009, -4311810305L};
        for (int sort = 0; sort < 4; sort++) {
            x.numbers(sort, sort, 2);
            Check.due("46: cut to " + sort, x.write(sort, 1, -4311810305L), want[sort]);
        }
        Check.due("46: 8 bits", x.write(0, 0, 200), -56);
        Check.due("46: 16 bits", x.write(1, 0, 40000), -25536);
        Check.due("46: 32 bits", x.write(2, 0, 1L << 31), Integer.MIN_VALUE);
        Check.due("46: 64 bits", x.write(3, 0, Long.MIN_VALUE), Long.MIN_VALUE);
        Check.due("46: no such tray", x.write(4, 0, 1), -2);
        Check.due("46: no such number", x.write(0, 2, 1), -7);
        Check.due("46: no such number", x.write(0, -1, 1), -7);
        Check.due("46: missing", new AllPressed().write(0, 99, 1), -6);
    }

    private static void lists() {
        AllPressed x = Check.with("house 9;lift at 4 lit 0 7 5 speed 60 stops 20;lift at 1;");
        x.numbers(0, 2, 9);
        Check.due("47: places", x.lists(0, 0), 6);
        x.numbers(0, 2, 6);
        x.lists(0, 0);
        Check.due("47: as seen", x.seen(0, 0), 1);
        Check.due("47: lights", x.sure(0, 0), 161);
        x.numbers(0, 2, 3);
        Check.due("47: as far as it has places", x.lists(0, 0), 3);
        x.numbers(1, 0, 6);
        x.lists(1, 0);
        // 5 at 60, 7 at 200: cut to -56.
        Check.due("47: cut to its sort", x.seen(1, 0), -3);
        x.numbers(1, 0, 2);
        x.lists(1, 0);
        Check.due("47: a second", x.seen(1, 0), 128);
        Check.due("47: none", x.lists(0, 1), 0);
        x.numbers(2, 0, 0);
        Check.due("47: no places", x.lists(2, 0), 0);
        Check.due("47: no such tray", x.lists(4, 0), -2);
        Check.due("47: no such lift", x.lists(0, 2), -2);
        Check.due("47: no such lift ahead of missing", x.lists(3, 2), -2);
        Check.due("47: missing", x.lists(3, 0), -6);
        AllPressed y = Check.with("house 9;lift at 4;lift at 0 lit 5;");
        Check.tray(y, 0, 2, 0, 0, 2001);
        Check.due("47: two places of three", y.lists(0, 1), 2);
        y.write(0, 0, 3);
        y.write(0, 1, 5);
        Check.due("47: others stay", y.judge(0, 0), -1);
    }

    private static void images() {
        AllPressed x = Check.with("house 5;lift at 0 lit 3;person home 3 in 0 age 4;calls 2 times 6;stop : 5;foot : age;");
        Check.due("49: none was made", x.restore(0), -5);
        x.rides(0);
        Check.due("48: made", x.image(0), 0);
        Check.due("48: undoing goes on", x.count(6), 1);
        Check.due("48: undo", x.undo(1), 0);
        Check.tell(x, "house 3;");
        Check.feed(x, "house 2;");
        x.numbers(0, 0, 3);
        Check.due("49: the other one", x.restore(1), -5);
        Check.due("49: restored", x.restore(0), 0);
        int[] want = {5, 1, 1, 1, 0, 0, 0, 20, 6};
        for (int what = 0; what < want.length; what++) Check.due("49: count " + what, x.count(what), want[what]);
        Check.due("49: floor", x.lift(0, 0), 3);
        Check.due("49: second", x.lift(0, 1), 14);
        Check.due("49: person", x.person(0, 1), 9);
        Check.due("49: calls", x.calls(2), 6);
        Check.due("49: stop", x.stop(0, 1, 1), 5);
        Check.due("49: foot", x.foot(0, 1, 3), 8);
        Check.due("49: trays stay", x.write(0, 2, 1), 1);
        x.press(0, 1);
        x.image(1);
        Check.due("49: again", x.restore(0), 0);
        Check.due("49: nothing can be undone", x.undo(1), -3);
        Check.due("49: no light", x.count(5), 0);
        x.restore(1);
        Check.due("49: the second image", x.count(5), 1);
        Check.due("48: no such image", x.image(2), -2);
        Check.due("48: no such image", x.image(-1), -2);
        Check.due("49: no such image", x.restore(2), -2);
        Check.due("49: no such image", x.restore(-1), -2);
    }

    private static void count() {
        AllPressed x = Check.with("house 5;lift at 0 lit 3;lift at 3 lit 1 2;person home 0 in 0;person home 4 in 1;"
            + "person home 2 at 2;person home 0;");
        Check.feed(x, "some");
        x.press(0, 4);
        int[] want = {5, 2, 4, 2, 2, 4, 1, 20, 7};
        for (int what = 0; what < want.length; what++) Check.due("50: count " + what, x.count(what), want[what]);
        Check.due("50: others", x.count(9), -1);
        Check.due("50: others", x.count(-1), -1);
    }
}
