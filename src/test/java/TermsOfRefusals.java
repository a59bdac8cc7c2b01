import java.util.function.ToLongFunction;

/** The Terms of refused calls: their codes, which code of several, and that nothing is changed. */
final class TermsOfRefusals {
    private static String control = "";

    private TermsOfRefusals() {}

    static void run() {
        changeNothing();
        ofTheHouse();
        ofDeeds();
        ofWhatComes();
        ofLights();
        ofTrays();
        ofATextAndAFullTape();
        theFirstOfSeveral();
    }

    /** Tray 0 is missing, 1 has deeds, 2 has twos, 3 is full; image 1 is missing; two calls can be undone; the tape has a house. */
    private static AllPressed rich() {
        AllPressed x = Check.with("house 3;lift at 2 lit 0;person home 0 in 0;calls 1 times 5;");
        x.rides(0);
        x.image(0);
        Check.tell(x, "house 9;lift at 3 lit 0 5;lift at 4;person home 5 in 0;person home 8 at 3 worth 2;person home 4 at 4;foot:5;");
        Check.tell(x, "house 9;boy;");
        Check.tray(x, 1, 1, 2000, 3000, 5008);
        Check.tray(x, 2, 2, 5, 6);
        Check.tray(x, 3, 3, new long[40]);
        x.walks(1, 6);
        x.rides(0);
        x.press(1, 8);
        x.undo(1);
        Check.feed(x, "house 2;");
        return x;
    }

    private static void refuses(String call, ToLongFunction<AllPressed> refused, long code) {
        AllPressed x = rich();
        Doc.due(call, refused.applyAsLong(x), code);
        Doc.same(call + " changes nothing", State.toTheEnd(x), control);
    }

    private static void changeNothing() {
        Doc.says(Doc.TERMS, "Refused calls answer by a code and change nothing: -2 there is none such; -3 a number can't be; -4 too many; -5 it"
            + " can't be now; -6 a TRAY is MISSING; -7 it has no such number; -11 to -13 why not (1 to 3); -30 less the FAULT: a text.");
        control = State.toTheEnd(rich());
        AllPressed x = rich();
        Doc.due("calls to undo", x.count(6), 2);
        Doc.due("a fault", x.fault(0), 2);
        Doc.due("bytes", x.count(7), 20);
        Doc.due("a second", x.person(1, 1), 15);
        Doc.due("a second", x.lift(0, 1), 14);
        Doc.due("an image", x.restore(0), 0);
    }

    private static void ofTheHouse() {
        refuses("house(-1)", x -> x.house(-1), -3);
        refuses("house(21)", x -> x.house(21), -3);
        refuses("house(least)", x -> x.house(Integer.MIN_VALUE), -3);
        refuses("house(greatest)", x -> x.house(Integer.MAX_VALUE), -3);
        refuses("lift(2, 0)", x -> x.lift(2, 0), -8);
        refuses("lift(0, 7)", x -> x.lift(0, 7), -8);
        refuses("person(3, 0)", x -> x.person(3, 0), -8);
        refuses("person(0, 7)", x -> x.person(0, 7), -8);
        refuses("foot(3, 0, 0)", x -> x.foot(3, 0, 0), -2);
        refuses("stop(2, 0, 1)", x -> x.stop(2, 0, 1), -2);
        refuses("stop(0, 0, 12)", x -> x.stop(0, 0, 12), -3);
        refuses("calls(9)", x -> x.calls(9), -2);
    }

    private static void ofDeeds() {
        refuses("press(2, 0)", x -> x.press(2, 0), -11);
        refuses("press(0, 9)", x -> x.press(0, 9), -11);
        refuses("press(0, 0), lit", x -> x.press(0, 0), -12);
        refuses("press(0, 5), its own", x -> x.press(0, 5), -12);
        refuses("pressOff(-1, 0)", x -> x.pressOff(-1, 0), -11);
        refuses("pressOff(0, -1)", x -> x.pressOff(0, -1), -11);
        refuses("pressOff(0, 1)", x -> x.pressOff(0, 1), -12);
        refuses("rides(2)", x -> x.rides(2), -11);
        refuses("rides(1)", x -> x.rides(1), -12);
        refuses("out(3)", x -> x.out(3), -11);
        refuses("out(1)", x -> x.out(1), -12);
        refuses("in(3, 0)", x -> x.in(3, 0), -11);
        refuses("in(1, 2)", x -> x.in(1, 2), -11);
        refuses("in(0, 0)", x -> x.in(0, 0), -12);
        refuses("in(1, 0)", x -> x.in(1, 0), -13);
        refuses("walks(3, 0)", x -> x.walks(3, 0), -11);
        refuses("walks(1, 9)", x -> x.walks(1, 9), -11);
        refuses("walks(0, 8)", x -> x.walks(0, 8), -12);
        refuses("walks(1, 6)", x -> x.walks(1, 6), -12);
        refuses("undo(0)", x -> x.undo(0), -3);
        refuses("undo(-1)", x -> x.undo(-1), -3);
        refuses("undo(3)", x -> x.undo(3), -3);
        refuses("undo(11)", x -> x.undo(11), -3);
        refuses("judge(4, 0)", x -> x.judge(4, 0), -2);
        refuses("judge(1, 4)", x -> x.judge(1, 4), -2);
        refuses("judge(0, 0)", x -> x.judge(0, 0), -6);
        refuses("perform(4)", x -> x.perform(4), -2);
        refuses("perform(0)", x -> x.perform(0), -6);
        refuses("perform(3) does none", x -> x.perform(3), 0);
        refuses("evenings(1, 0)", x -> x.evenings(1, 0), -3);
        refuses("evenings(1, 41)", x -> x.evenings(1, 41), -3);
    }

    private static void ofWhatComes() {
        refuses("stops(2)", x -> x.stops(2), -2);
        refuses("stopAt(2, 0)", x -> x.stopAt(2, 0), -2);
        refuses("stopAt(0, -1)", x -> x.stopAt(0, -1), -3);
        refuses("comes(2, 0)", x -> x.comes(2, 0), -2);
        refuses("comes(0, 9)", x -> x.comes(0, 9), -2);
        refuses("restsBy(2)", x -> x.restsBy(2), -2);
        refuses("best(3, 0)", x -> x.best(3, 0), -2);
        refuses("best(0, 2)", x -> x.best(0, 2), -2);
        refuses("homeBy(3, 0)", x -> x.homeBy(3, 0), -2);
        refuses("homeBy(1, 6)", x -> x.homeBy(1, 6), -5);
        refuses("all(2)", x -> x.all(2), -2);
        refuses("latest(2)", x -> x.latest(2), -2);
        refuses("walkers(2)", x -> x.walkers(2), -2);
        refuses("waits(3, 0)", x -> x.waits(3, 0), -2);
        refuses("waits(0, 0)", x -> x.waits(0, 0), -5);
        refuses("choice(3)", x -> x.choice(3), -2);
        refuses("choice(0)", x -> x.choice(0), -5);
    }

    /** Those that answer are looked at, too: to weigh lights must put none. */
    private static void ofLights() {
        refuses("least(2, 0)", x -> x.least(2, 0), -2);
        refuses("fairest(0, 2)", x -> x.fairest(0, 2), -2);
        refuses("costs(0, 1)", x -> x.costs(0, 1), -2000000000);
        refuses("worstLight(2)", x -> x.worstLight(2), -2);
        refuses("bestLight(2)", x -> x.bestLight(2), -2);
        refuses("boy(0, 8, 0)", x -> x.boy(0, 8, 0), -2000000000);
        refuses("parting(0, 0, 0)", x -> x.parting(0, 0, 0), -2);
        refuses("parting(0, 1, 0)", x -> x.parting(0, 1, 0), -5);
        refuses("away(9)", x -> x.away(9), -2);
        refuses("nearest(9)", x -> x.nearest(9), -2);
        refuses("least", x -> x.least(0, 1), 0);
        refuses("fairest", x -> x.fairest(0, 1), 0);
        refuses("costs", x -> x.costs(0, 0), 0);
        refuses("worst light", x -> x.worstLight(0), -1);
        refuses("best light", x -> x.bestLight(0), -1);
        refuses("boy", x -> x.boy(0, 7, 1), 1);
        refuses("waits", x -> x.waits(2, 1), 0);
        // Person 1 came to 6 at 15: lift 0, at 5 from 14 on, is there at 17, and goes at 25; 8 at 31.
        refuses("waits", x -> x.waits(1, 0), 31);
    }

    private static void ofTrays() {
        refuses("seen(4, 0)", x -> x.seen(4, 0), -2);
        refuses("sure(2, 2)", x -> x.sure(2, 2), -2);
        refuses("look(0, 0)", x -> x.look(0, 0), -6);
        refuses("odd(3, 0)", x -> x.odd(3, 0), -4);
        refuses("seen(1, 0)", x -> x.seen(1, 0), -4);
        refuses("numbers(4, 0, 0)", x -> x.numbers(4, 0, 0), -2);
        refuses("numbers(1, 4, 0)", x -> x.numbers(1, 4, 0), -2);
        refuses("numbers(1, 0, -1)", x -> x.numbers(1, 0, -1), -3);
        refuses("numbers(1, 0, 41)", x -> x.numbers(1, 0, 41), -3);
        refuses("numbers(0, 0, 41)", x -> x.numbers(0, 0, 41), -3);
        refuses("write(4, 0, 1)", x -> x.write(4, 0, 1), -2);
        refuses("write(0, 0, 1)", x -> x.write(0, 0, 1), -6);
        refuses("write(1, 3, 1)", x -> x.write(1, 3, 1), -7);
        refuses("write(1, -1, 1)", x -> x.write(1, -1, 1), -7);
        refuses("lists(4, 0)", x -> x.lists(4, 0), -2);
        refuses("lists(1, 2)", x -> x.lists(1, 2), -2);
        refuses("lists(0, 0)", x -> x.lists(0, 0), -6);
        refuses("lists of none", x -> x.lists(1, 1), 0);
        refuses("image(2)", x -> x.image(2), -2);
        refuses("image(-1)", x -> x.image(-1), -2);
        refuses("restore(2)", x -> x.restore(2), -2);
        refuses("restore(-1)", x -> x.restore(-1), -2);
        refuses("restore(1)", x -> x.restore(1), -5);
        refuses("count(9)", x -> x.count(9), -1);
        refuses("fault(2)", x -> x.fault(2), -1);
    }

    private static void ofATextAndAFullTape() {
        AllPressed x = rich();
        String before = State.of(x);
        Doc.due("house with a fault", x.house(7), -32);
        Doc.same("all stays", State.of(x), before);
        Doc.due("calls can still be undone", x.undo(2), 0);
        for (int i = 0; i < 45; i++) Doc.due("feed", x.feed(1, 2, 3, 4, 5), 20 * i + 20);
        String full = State.whole(x);
        Doc.due("feed a full one", x.feed(1, 2, 3, 4, 5), -5);
        Doc.same("nothing is changed", State.whole(x), full);
        Doc.due("no lifts", new AllPressed().evenings(1, 1), -5);
    }

    private static void first(String call, ToLongFunction<AllPressed> refused, long code) {
        Doc.due(call, refused.applyAsLong(rich()), code);
    }

    private static void theFirstOfSeveral() {
        Doc.says(Doc.TERMS, "(Of several that which the call tells first; all these ahead of NONE.)");
        first("stop: no lift, not so many lit", x -> x.stop(2, 0, 0), -2);
        first("stop: no floor, not so many lit", x -> x.stop(0, 9, 12), -2);
        first("in: in one, and no such lift", x -> x.in(0, 2), -11);
        first("in: in one, and the lift is elsewhere", x -> x.in(0, 1), -12);
        first("walks: in one, and no such floor", x -> x.walks(0, 9), -11);
        first("judge: no such what, missing", x -> x.judge(0, 4), -2);
        first("evenings: times, no lifts", x -> new AllPressed().evenings(1, 0), -3);
        first("stopAt: no lift, below 0", x -> x.stopAt(2, -1), -2);
        first("homeBy: no floor, in none", x -> x.homeBy(1, 9), -2);
        first("waits: in one, no such lift", x -> x.waits(0, 2), -2);
        first("parting: unlike floors, no such what", x -> x.parting(0, 1, 2), -2);
        first("seen: no such lift, missing", x -> x.seen(0, 2), -2);
        first("sure: no such lift, too many", x -> x.sure(3, 2), -2);
        first("odd: too many, no such floor", x -> {
            x.write(3, 0, 99);
            return x.odd(3, 0);
        }, -4);
        first("numbers: no such sort, n", x -> x.numbers(1, 4, 41), -2);
        first("numbers: no such tray, n", x -> x.numbers(4, 0, -1), -2);
        first("write: missing, no such number", x -> x.write(0, 40, 1), -6);
        first("write: no such tray, no such number", x -> x.write(4, 40, 1), -2);
        first("lists: no such lift, missing", x -> x.lists(0, 2), -2);
        first("stopAt ahead of NONE", x -> x.stopAt(2, 99), -2);
        first("comes ahead of NONE", x -> x.comes(2, 1), -2);
        first("homeBy ahead of NONE", x -> x.homeBy(1, 1), -5);
        first("best ahead of NONE", x -> x.best(1, 2), -2);
        first("nearest ahead of NONE", x -> new AllPressed().nearest(2), -2);
        first("look ahead of NONE", x -> {
            Check.tray(x, 2, 2, 9, 0);
            return x.look(2, 0);
        }, -3);
    }
}
