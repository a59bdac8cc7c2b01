import java.util.Arrays;

/** A house with lifts whose buttons are all pressed; ../shared/DOC.md numbers what each call promises. */
public final class AllPressed {
    public static final int NONE = -1;

    private static final int MOST_BYTES = 900;
    private static final int MOST_FLOORS = 12;
    private static final int MOST_LIFTS = 3;
    private static final int MOST_PEOPLE = 8;
    private static final int MOST_OPENED = 6;
    private static final int MOST_UNDONE = 10;
    private static final int MOST_TIMES = 40;
    private static final int MOST_NUMBERS = 40;
    private static final int MOST_TWOS = 8;
    private static final int TRAYS = 4;
    private static final int SORTS = 4;
    private static final int IMAGES = 2;

    private static final int NO_SUCH = -2;
    private static final int CANNOT_BE = -3;
    private static final int TOO_MANY = -4;
    private static final int NOT_NOW = -5;
    private static final int MISSING = -6;
    private static final int NO_NUMBER = -7;
    private static final int NO_DETAIL = -8;
    private static final int WHY_NOT = -10;
    private static final int BAD_TEXT = -30;
    private static final int NO_COST = -2000000000;

    private final byte[] tape = new byte[MOST_BYTES];
    private int taped = 0;
    private final Reader reader = new Reader();
    private final House told = new House();
    private final Now now = new Now();
    private final Now judged = new Now();
    // One place more than can be undone: a call writes there ahead of knowing whether it does anything.
    private final Now[] past = new Now[MOST_UNDONE + 1];
    private int pastAt = 0;
    private int undoable = 0;
    private final Tray[] trays = new Tray[TRAYS];
    private final House[] imageHouses = new House[IMAGES];
    private final Now[] imageNows = new Now[IMAGES];
    private final boolean[] imageMade = new boolean[IMAGES];
    private final Trip trip = new Trip(told);
    private final Deeds deeds = new Deeds(told);
    private final Lights lights = new Lights(told, now);
    private final Plans plans = new Plans(told, now);
    private final Sighting sighting = new Sighting(told, now);

    public AllPressed() {
        for (int i = 0; i < past.length; i++) past[i] = new Now();
        for (int i = 0; i < trays.length; i++) trays[i] = new Tray();
        for (int i = 0; i < IMAGES; i++) {
            imageHouses[i] = new House();
            imageNows[i] = new Now();
        }
    }

    // ---- the house

    public int feed(int a, int b, int c, int d, int e) {
        if (taped + 20 > MOST_BYTES) return NOT_NOW;
        putBytes(a);
        putBytes(b);
        putBytes(c);
        putBytes(d);
        putBytes(e);
        return taped;
    }

    public int house(int n) {
        if (n < 0 || n > taped) return CANNOT_BE;
        taped = 0;
        if (!reader.read(tape, n)) return BAD_TEXT - reader.faultKind;
        told.copyFrom(reader.house);
        now.copyFrom(reader.now);
        undoable = 0;
        return told.lines;
    }

    public int fault(int what) {
        switch (what) {
            case 0: return reader.faultKind;
            case 1: return reader.faultPlace;
            default: return NONE;
        }
    }

    public int lift(int l, int what) {
        if (!told.hasLift(l)) return NO_DETAIL;
        switch (what) {
            case 0: return now.liftFloor[l];
            case 1: return now.liftSecond[l];
            case 2: return now.lit[l];
            case 3: return now.goesUp[l];
            case 4: return ridersOf(l);
            case 5: return told.speed[l];
            case 6:
                trip.begin(now, l);
                return trip.nextStop();
            default: return NO_DETAIL;
        }
    }

    public int person(int p, int what) {
        if (!told.hasPerson(p)) return NO_DETAIL;
        switch (what) {
            case 0: return now.personFloor[p];
            case 1: return now.personSecond[p];
            case 2: return now.personIn[p];
            case 3: return told.home[p];
            case 4: return told.load[p];
            case 5: return told.age[p];
            case 6: return told.worth[p];
            default: return NO_DETAIL;
        }
    }

    public int foot(int p, int f, int g) {
        if (!told.hasPerson(p) || !told.hasFloor(f) || !told.hasFloor(g)) return NO_SUCH;
        return told.onFoot(p, f, g);
    }

    public int stop(int l, int f, int lit) {
        if (!told.hasLift(l) || !told.hasFloor(f)) return NO_SUCH;
        if (lit < 1 || lit >= MOST_FLOORS) return CANNOT_BE;
        return told.lasts(l, f, lit);
    }

    public int calls(int f) {
        return told.hasFloor(f) ? told.callsFrom[f] : NO_SUCH;
    }

    // ---- deeds

    public int press(int l, int f) {
        keepBefore();
        int why = deeds.lightOn(now, l, f);
        if (why != 0) return WHY_NOT - why;
        countBefore();
        return Integer.bitCount(now.lit[l]);
    }

    public int pressOff(int l, int f) {
        keepBefore();
        int why = deeds.lightOff(now, l, f);
        if (why != 0) return WHY_NOT - why;
        countBefore();
        return Integer.bitCount(now.lit[l]);
    }

    public int rides(int l) {
        keepBefore();
        int why = deeds.rideOnce(now, l);
        if (why != 0) return WHY_NOT - why;
        countBefore();
        return now.liftFloor[l];
    }

    public int out(int p) {
        keepBefore();
        int why = deeds.getOut(now, p);
        if (why != 0) return WHY_NOT - why;
        countBefore();
        return now.personFloor[p];
    }

    public int in(int p, int l) {
        keepBefore();
        int why = deeds.getIn(now, p, l);
        if (why != 0) return WHY_NOT - why;
        countBefore();
        return now.liftSecond[l];
    }

    public int walks(int p, int f) {
        keepBefore();
        int why = deeds.walkTo(now, p, f);
        if (why != 0) return WHY_NOT - why;
        countBefore();
        return now.personSecond[p];
    }

    public int undo(int n) {
        if (n < 1 || n > undoable) return CANNOT_BE;
        pastAt = Math.floorMod(pastAt - n, past.length);
        now.copyFrom(past[pastAt]);
        undoable -= n;
        return undoable;
    }

    public int judge(int tray, int what) {
        if (!isTray(tray) || what < 0 || what > 3) return NO_SUCH;
        if (trays[tray].isMissing()) return MISSING;
        judged.copyFrom(now);
        int done = deeds.doAll(judged, trays[tray]);
        switch (what) {
            case 0: return deeds.why == 0 ? NONE : done;
            case 1: return deeds.why;
            case 2: return peopleAtHome(judged);
            default: return lightsOf(judged);
        }
    }

    public int perform(int tray) {
        if (!isTray(tray)) return NO_SUCH;
        if (trays[tray].isMissing()) return MISSING;
        keepBefore();
        int done = deeds.doAll(now, trays[tray]);
        if (done > 0) countBefore();
        return done;
    }

    public int evenings(int seed, int times) {
        if (times < 1 || times > MOST_TIMES) return CANNOT_BE;
        if (told.lifts == 0 || told.people == 0) return NOT_NOW;
        keepBefore();
        int done = deeds.drawAll(now, seed, times);
        if (done > 0) countBefore();
        return done;
    }

    // ---- stops to come

    public int stops(int l) {
        if (!told.hasLift(l)) return NO_SUCH;
        return Integer.bitCount(now.lit[l]);
    }

    public int stopAt(int l, int k) {
        if (!told.hasLift(l)) return NO_SUCH;
        if (k < 0) return CANNOT_BE;
        trip.begin(now, l);
        for (int i = 0; i < MOST_FLOORS && trip.rideOn(); i++) {
            if (i == k) return trip.floor;
        }
        return NONE;
    }

    public int comes(int l, int f) {
        if (!told.hasLift(l) || !told.hasFloor(f)) return NO_SUCH;
        trip.begin(now, l);
        return trip.comesTo(f);
    }

    public int restsBy(int l) {
        if (!told.hasLift(l)) return NO_SUCH;
        trip.begin(now, l);
        trip.rideOut();
        return trip.second;
    }

    // ---- whether to walk

    public int best(int p, int what) {
        if (!told.hasPerson(p) || what < 0 || what > 1) return NO_SUCH;
        int l = now.personIn[p];
        if (l == NONE) return what == 0 ? walkingHome(p) : NONE;
        lights.weigh(l, now.lit[l]);
        return what == 0 ? lights.soonest[p] : lights.outAt[p];
    }

    public int homeBy(int p, int f) {
        if (!told.hasPerson(p) || !told.hasFloor(f)) return NO_SUCH;
        int l = now.personIn[p];
        if (l == NONE) return NOT_NOW;
        if (f == now.personFloor[p]) return walkingHome(p);
        trip.begin(now, l);
        int second = trip.comesTo(f);
        return second == NONE ? NONE : second + told.onFootHome(p, f);
    }

    public long all(int l) {
        return told.hasLift(l) ? lights.sumWith(l, now.lit[l]) : NO_SUCH;
    }

    public int latest(int l) {
        return told.hasLift(l) ? lights.lastWith(l, now.lit[l]) : NO_SUCH;
    }

    public int walkers(int l) {
        if (!told.hasLift(l)) return NO_SUCH;
        lights.weigh(l, now.lit[l]);
        int bits = 0;
        for (int p = 0; p < told.people; p++) {
            if (now.personIn[p] == l && lights.outAt[p] != told.home[p]) bits |= 1 << p;
        }
        return bits;
    }

    public int waits(int p, int l) {
        if (!told.hasPerson(p) || !told.hasLift(l)) return NO_SUCH;
        if (now.personIn[p] != NONE) return NOT_NOW;
        return plans.waitFor(p, l);
    }

    public int choice(int p) {
        if (!told.hasPerson(p)) return NO_SUCH;
        if (now.personIn[p] != NONE) return NOT_NOW;
        int chosen = NONE;
        int soonest = walkingHome(p);
        for (int l = 0; l < told.lifts; l++) {
            int second = plans.waitFor(p, l);
            if (second < soonest) {
                soonest = second;
                chosen = l;
            }
        }
        return chosen;
    }

    // ---- lights

    public long least(int l, int what) {
        if (!told.hasLift(l) || what < 0 || what > 1) return NO_SUCH;
        int kept = lights.keptFor(l, false);
        return what == 1 ? kept : lights.sumWith(l, kept);
    }

    public int fairest(int l, int what) {
        if (!told.hasLift(l) || what < 0 || what > 1) return NO_SUCH;
        int kept = lights.keptFor(l, true);
        return what == 1 ? kept : lights.lastWith(l, kept);
    }

    public long costs(int l, int f) {
        if (!told.hasLift(l) || !told.hasFloor(f) || !now.isLit(l, f)) return NO_COST;
        return lights.sumWith(l, now.lit[l]) - lights.sumWith(l, now.lit[l] ^ 1 << f);
    }

    public int worstLight(int l) {
        return told.hasLift(l) ? lights.toTurn(l, now.lit[l]) : NO_SUCH;
    }

    public int bestLight(int l) {
        return told.hasLift(l) ? lights.toTurn(l, lights.unlit(l)) : NO_SUCH;
    }

    public long boy(int l, int n, int what) {
        if (!told.hasLift(l) || what < 0 || what > 1) return NO_COST;
        if (n < 0 || n > Integer.bitCount(lights.unlit(l))) return NO_COST;
        lights.letBoyPress(l, n);
        return what == 0 ? lights.meanAbove : lights.meanBelow;
    }

    // ---- two lifts

    public long parting(int l, int m, int what) {
        if (!told.hasLift(l) || !told.hasLift(m) || l == m || what < 0 || what > 1) return NO_SUCH;
        if (now.liftFloor[l] != now.liftFloor[m]) return NOT_NOW;
        plans.part(l, m);
        return what == 0 ? plans.leastSum : plans.firstFloors;
    }

    public int rest() {
        int found = 0;
        for (int f = 1; f < told.floors; f++) {
            if (told.floorsAway(f) < told.floorsAway(found)) found = f;
        }
        return found;
    }

    public int away(int f) {
        return told.hasFloor(f) ? told.floorsAway(f) : NO_SUCH;
    }

    public int nearest(int f) {
        if (!told.hasFloor(f)) return NO_SUCH;
        int found = NONE;
        int least = MOST_FLOORS;
        for (int l = 0; l < told.lifts; l++) {
            int distance = Math.abs(now.liftFloor[l] - f);
            if (distance < least) {
                least = distance;
                found = l;
            }
        }
        return found;
    }

    // ---- lights that were lit

    public int seen(int tray, int l) {
        int code = gatherSets(tray, l);
        return code != 0 ? code : sighting.sets;
    }

    public int sure(int tray, int l) {
        int code = gatherSets(tray, l);
        return code != 0 ? code : sighting.inAll();
    }

    public int look(int tray, int l) {
        int code = gatherSets(tray, l);
        return code != 0 ? code : sighting.mostEven(l);
    }

    public int odd(int tray, int l) {
        int code = gatherSets(tray, l);
        if (code != 0) return code;
        return sighting.sets > 0 ? NONE : sighting.longest;
    }

    // ---- trays, images

    public int numbers(int tray, int sort, int n) {
        if (!isTray(tray) || sort < 0 || sort >= SORTS) return NO_SUCH;
        if (n < 0 || n > MOST_NUMBERS) return CANNOT_BE;
        trays[tray].become(sort, n);
        return 0;
    }

    public long write(int tray, int i, long v) {
        if (!isTray(tray)) return NO_SUCH;
        if (trays[tray].isMissing()) return MISSING;
        if (!trays[tray].has(i)) return NO_NUMBER;
        return trays[tray].put(i, v);
    }

    public int lists(int tray, int l) {
        if (!isTray(tray) || !told.hasLift(l)) return NO_SUCH;
        Tray filled = trays[tray];
        if (filled.isMissing()) return MISSING;
        int places = 0;
        trip.begin(now, l);
        for (int i = 0; i < MOST_FLOORS && trip.rideOn(); i++) {
            if (filled.has(places)) filled.put(places++, trip.floor);
            if (filled.has(places)) filled.put(places++, trip.came);
        }
        return places;
    }

    public int image(int i) {
        if (i < 0 || i >= IMAGES) return NO_SUCH;
        imageHouses[i].copyFrom(told);
        imageNows[i].copyFrom(now);
        imageMade[i] = true;
        return 0;
    }

    public int restore(int i) {
        if (i < 0 || i >= IMAGES) return NO_SUCH;
        if (!imageMade[i]) return NOT_NOW;
        told.copyFrom(imageHouses[i]);
        now.copyFrom(imageNows[i]);
        undoable = 0;
        return 0;
    }

    public int count(int what) {
        switch (what) {
            case 0: return told.floors;
            case 1: return told.lifts;
            case 2: return told.people;
            case 3: return riders();
            case 4: return Integer.bitCount(peopleAtHome(now));
            case 5: return lightsOf(now);
            case 6: return undoable;
            case 7: return taped;
            case 8: return told.lines;
            default: return NONE;
        }
    }

    // ---- what the calls share

    private void putBytes(int four) {
        for (int shift = 24; shift >= 0; shift -= 8) {
            if (taped < tape.length) tape[taped++] = (byte) (four >>> shift);
        }
    }

    private void keepBefore() {
        past[pastAt].copyFrom(now);
    }

    private void countBefore() {
        pastAt = (pastAt + 1) % past.length;
        undoable = Math.min(undoable + 1, MOST_UNDONE);
    }

    private boolean isTray(int tray) {
        return tray >= 0 && tray < TRAYS;
    }

    private int ridersOf(int l) {
        int bits = 0;
        for (int p = 0; p < told.people; p++) {
            if (now.personIn[p] == l) bits |= 1 << p;
        }
        return bits;
    }

    private int riders() {
        int found = 0;
        for (int p = 0; p < told.people; p++) {
            if (now.personIn[p] != NONE) found++;
        }
        return found;
    }

    private int peopleAtHome(Now when) {
        int bits = 0;
        for (int p = 0; p < told.people; p++) {
            if (when.personIn[p] == NONE && when.personFloor[p] == told.home[p]) bits |= 1 << p;
        }
        return bits;
    }

    private int lightsOf(Now when) {
        int found = 0;
        for (int l = 0; l < told.lifts; l++) found += Integer.bitCount(when.lit[l]);
        return found;
    }

    private int walkingHome(int p) {
        return now.personSecond[p] + told.onFootHome(p, now.personFloor[p]);
    }

    private int gatherSets(int tray, int l) {
        if (!isTray(tray) || !told.hasLift(l)) return NO_SUCH;
        Tray twos = trays[tray];
        if (twos.isMissing()) return MISSING;
        if (twos.size < 2 || twos.size > 2 * MOST_TWOS || twos.size % 2 != 0) return TOO_MANY;
        for (int i = 0; i < twos.size; i += 2) {
            if (twos.get(i) < 0 || twos.get(i) >= told.floors || twos.get(i + 1) < 0) return CANNOT_BE;
        }
        sighting.gather(twos, l);
        return 0;
    }

    /** What the text tells and no deed changes; the laws are kept as tables of all that they can be asked. */
    private static final class House {
        int floors = 2;
        int lines = 0;
        int lifts = 0;
        int people = 0;
        final int[] callsFrom = new int[MOST_FLOORS];
        final int[] speed = new int[MOST_LIFTS];
        final int[] home = new int[MOST_PEOPLE];
        final int[] load = new int[MOST_PEOPLE];
        final int[] age = new int[MOST_PEOPLE];
        final int[] worth = new int[MOST_PEOPLE];
        final int[] footUp = new int[MOST_PEOPLE * MOST_FLOORS];
        final int[] footDown = new int[MOST_PEOPLE * MOST_FLOORS];
        final int[] footHome = new int[MOST_PEOPLE * MOST_FLOORS];
        final int[] lasting = new int[MOST_LIFTS * MOST_FLOORS * MOST_FLOORS];

        void clear() {
            lines = 0;
            lifts = 0;
            people = 0;
            Arrays.fill(callsFrom, 0);
        }

        void copyFrom(House other) {
            floors = other.floors;
            lines = other.lines;
            lifts = other.lifts;
            people = other.people;
            System.arraycopy(other.callsFrom, 0, callsFrom, 0, MOST_FLOORS);
            System.arraycopy(other.speed, 0, speed, 0, MOST_LIFTS);
            System.arraycopy(other.home, 0, home, 0, MOST_PEOPLE);
            System.arraycopy(other.load, 0, load, 0, MOST_PEOPLE);
            System.arraycopy(other.age, 0, age, 0, MOST_PEOPLE);
            System.arraycopy(other.worth, 0, worth, 0, MOST_PEOPLE);
            System.arraycopy(other.footUp, 0, footUp, 0, footUp.length);
            System.arraycopy(other.footDown, 0, footDown, 0, footDown.length);
            System.arraycopy(other.footHome, 0, footHome, 0, footHome.length);
            System.arraycopy(other.lasting, 0, lasting, 0, lasting.length);
        }

        boolean hasFloor(int f) {
            return f >= 0 && f < floors;
        }

        boolean hasLift(int l) {
            return l >= 0 && l < lifts;
        }

        boolean hasPerson(int p) {
            return p >= 0 && p < people;
        }

        int onFoot(int p, int f, int g) {
            int seconds = 0;
            for (int i = f; i < g; i++) seconds += footUp[p * MOST_FLOORS + i];
            for (int i = f; i > g; i--) seconds += footDown[p * MOST_FLOORS + i];
            return seconds;
        }

        int onFootHome(int p, int f) {
            return footHome[p * MOST_FLOORS + f];
        }

        int lasts(int l, int f, int lit) {
            return lasting[lastingAt(l, f, lit)];
        }

        int lastingAt(int l, int f, int lit) {
            return (l * MOST_FLOORS + f) * MOST_FLOORS + lit;
        }

        int floorsAway(int f) {
            int sum = 0;
            for (int g = 0; g < floors; g++) sum += callsFrom[g] * Math.abs(f - g);
            return sum;
        }
    }

    /** What deeds change, and what undoing brings back. */
    private static final class Now {
        final int[] liftFloor = new int[MOST_LIFTS];
        final int[] liftSecond = new int[MOST_LIFTS];
        final int[] lit = new int[MOST_LIFTS];
        final int[] goesUp = new int[MOST_LIFTS];
        final int[] personFloor = new int[MOST_PEOPLE];
        final int[] personSecond = new int[MOST_PEOPLE];
        final int[] personIn = new int[MOST_PEOPLE];

        void copyFrom(Now other) {
            System.arraycopy(other.liftFloor, 0, liftFloor, 0, MOST_LIFTS);
            System.arraycopy(other.liftSecond, 0, liftSecond, 0, MOST_LIFTS);
            System.arraycopy(other.lit, 0, lit, 0, MOST_LIFTS);
            System.arraycopy(other.goesUp, 0, goesUp, 0, MOST_LIFTS);
            System.arraycopy(other.personFloor, 0, personFloor, 0, MOST_PEOPLE);
            System.arraycopy(other.personSecond, 0, personSecond, 0, MOST_PEOPLE);
            System.arraycopy(other.personIn, 0, personIn, 0, MOST_PEOPLE);
        }

        boolean isLit(int l, int f) {
            return (lit[l] & 1 << f) != 0;
        }
    }

    /** The tokens of a text, one at a time; the one that is read stands in the fields. */
    private static final class Tokens {
        static final int END = 0;
        static final int WORD = 1;
        static final int NUMBER = 2;
        static final int SIGN = 3;
        static final int BAD = 4;

        private byte[] text = new byte[0];
        private int length = 0;
        private int at = 0;
        int kind = END;
        int place = 0;
        int number = 0;

        void begin(byte[] bytes, int n) {
            text = bytes;
            length = Math.min(n, bytes.length);
            at = 0;
            next();
        }

        /** Calls nothing: it stands at the end of the deepest calls of all. */
        void next() {
            while (at < length && (text[at] == 10 || text[at] == 32)) at++;
            place = at;
            number = 0;
            kind = END;
            if (at >= length) return;
            int first = text[at++];
            if (first >= 'a' && first <= 'z') {
                while (at < length && text[at] >= 'a' && text[at] <= 'z') at++;
                kind = WORD;
            } else if (first >= '0' && first <= '9') {
                number = first - '0';
                while (at < length && text[at] >= '0' && text[at] <= '9') {
                    // Beyond three digits it is no token; its worth must only not run over.
                    if (at - place < 3) number = number * 10 + text[at] - '0';
                    at++;
                }
                kind = at - place > 3 ? BAD : NUMBER;
            } else {
                boolean joins = first == '+' || first == '-' || first == '*';
                boolean parts = first == ';' || first == ':' || first == '(' || first == ')';
                kind = joins || parts ? SIGN : BAD;
            }
        }

        boolean isWord(String word) {
            if (kind != WORD || at - place != word.length()) return false;
            for (int i = 0; i < word.length(); i++) {
                if (text[place + i] != word.charAt(i)) return false;
            }
            return true;
        }

        boolean isSign(char sign) {
            return kind == SIGN && text[place] == sign;
        }
    }

    /** A law as code that is run on a stack: numbers and words come ahead of what joins them. */
    private static final class Law {
        static final int ADD = -11;
        static final int TAKE = -12;
        static final int TIMES = -13;
        private static final int OPENED = -14;
        private static final int KEPT = 1000000;
        private static final int MOST_SECONDS = 999;

        boolean isTold = false;
        int depth = 0;
        /** What its words stand for, in the order of the document. */
        final int[] words = new int[4];
        private final int[] code = new int[MOST_BYTES];
        private int length = 0;
        private final int[] stack = new int[32];
        private int top = 0;

        void begin() {
            isTold = true;
            depth = 0;
            length = 0;
            top = 0;
        }

        void putNumber(int n) {
            emit(n);
        }

        void putWord(int word) {
            emit(-1 - word);
        }

        void join(int operator) {
            for (; top > 0 && bindsAtLeast(stack[top - 1], operator); top--) emit(stack[top - 1]);
            push(operator);
        }

        void open() {
            depth++;
            push(OPENED);
        }

        void close() {
            depth--;
            for (; top > 0 && stack[top - 1] != OPENED; top--) emit(stack[top - 1]);
            pop();
        }

        void finish() {
            for (; top > 0; top--) emit(stack[top - 1]);
        }

        int seconds() {
            top = 0;
            for (int i = 0; i < length; i++) {
                int step = code[i];
                if (step >= 0) push(step);
                else if (step <= ADD) push(joined(step, pop(), pop()));
                else push(wordOf(step));
            }
            return (int) clamp(pop(), 0, MOST_SECONDS);
        }

        private int wordOf(int step) {
            int word = -1 - step;
            return word >= 0 && word < words.length ? words[word] : 0;
        }

        private static int joined(int operator, long right, long left) {
            switch (operator) {
                case ADD: return (int) clamp(left + right, -KEPT, KEPT);
                case TAKE: return (int) clamp(left - right, -KEPT, KEPT);
                default: return (int) clamp(left * right, -KEPT, KEPT);
            }
        }

        private static long clamp(long value, long low, long high) {
            return Math.max(low, Math.min(high, value));
        }

        private static boolean bindsAtLeast(int earlier, int later) {
            return earlier != OPENED && (earlier == TIMES || later != TIMES);
        }

        private void emit(int step) {
            if (length < code.length) code[length++] = step;
        }

        private void push(int value) {
            if (top < stack.length) stack[top++] = value;
        }

        private int pop() {
            return top > 0 ? stack[--top] : 0;
        }
    }

    /** Reads a text into a house of its own, so that a fault leaves the one that stands. */
    private static final class Reader {
        final House house = new House();
        final Now now = new Now();
        int faultKind = 0;
        int faultPlace = NONE;
        private final Tokens tokens = new Tokens();
        private final int[] stopping = new int[MOST_LIFTS];
        private final Law footLaw = new Law();
        private final Law stopLaw = new Law();

        boolean read(byte[] text, int n) {
            faultKind = 0;
            faultPlace = NONE;
            house.clear();
            footLaw.isTold = false;
            stopLaw.isTold = false;
            tokens.begin(text, n);
            expectWord("house");
            house.floors = expectNumber(2, MOST_FLOORS);
            endLine();
            for (int k = 0; k < MOST_BYTES && faultKind == 0 && tokens.kind != Tokens.END; k++) readLine();
            if (faultKind != 0) return false;
            fillFeet();
            fillStops();
            return true;
        }

        private void readLine() {
            if (tokens.isWord("lift")) readLift();
            else if (tokens.isWord("person")) readPerson();
            else if (tokens.isWord("foot")) readLaw(footLaw, true);
            else if (tokens.isWord("stop")) readLaw(stopLaw, false);
            else if (tokens.isWord("calls")) readCalls();
            else fail(2);
            endLine();
        }

        private void endLine() {
            expectSign(';');
            if (faultKind == 0) house.lines++;
        }

        private void readLift() {
            if (house.lifts >= MOST_LIFTS) {
                fail(4);
                return;
            }
            tokens.next();
            expectWord("at");
            int l = house.lifts;
            now.liftFloor[l] = expectNumber(0, house.floors - 1);
            now.liftSecond[l] = 0;
            now.lit[l] = 0;
            now.goesUp[l] = 1;
            house.speed[l] = 3;
            stopping[l] = 8;
            for (int k = 0; k < MOST_BYTES && faultKind == 0 && !tokens.isSign(';'); k++) readLiftFlag(l);
            house.lifts++;
        }

        private void readLiftFlag(int l) {
            if (takesWord("speed")) house.speed[l] = expectNumber(1, 60);
            else if (takesWord("stops")) stopping[l] = expectNumber(0, 99);
            else if (takesWord("lit")) readLit(l);
            else if (takesWord("down")) now.goesUp[l] = 0;
            else fail(2);
        }

        private void readLit(int l) {
            int bits = 0;
            boolean more = true;
            for (int k = 0; k < MOST_BYTES && more; k++) {
                if (tokens.kind == Tokens.NUMBER && tokens.number == now.liftFloor[l]) fail(3);
                bits |= 1 << expectNumber(0, house.floors - 1);
                more = faultKind == 0 && tokens.kind == Tokens.NUMBER;
            }
            now.lit[l] = bits;
        }

        private void readPerson() {
            if (house.people >= MOST_PEOPLE) {
                fail(4);
                return;
            }
            tokens.next();
            expectWord("home");
            int p = house.people;
            house.home[p] = expectNumber(0, house.floors - 1);
            house.load[p] = 0;
            house.age[p] = 0;
            house.worth[p] = 1;
            now.personFloor[p] = 0;
            now.personSecond[p] = 0;
            now.personIn[p] = NONE;
            for (int k = 0; k < MOST_BYTES && faultKind == 0 && !tokens.isSign(';'); k++) readPersonFlag(p);
            house.people++;
        }

        private void readPersonFlag(int p) {
            if (takesWord("at")) {
                now.personFloor[p] = expectNumber(0, house.floors - 1);
                now.personIn[p] = NONE;
            } else if (takesWord("in")) {
                int l = expectNumber(0, house.lifts - 1);
                now.personFloor[p] = now.liftFloor[l];
                now.personIn[p] = l;
            } else if (takesWord("load")) house.load[p] = expectNumber(0, 99);
            else if (takesWord("age")) house.age[p] = expectNumber(0, 99);
            else if (takesWord("worth")) house.worth[p] = expectNumber(1, 99);
            else fail(2);
        }

        private void readCalls() {
            tokens.next();
            int f = expectNumber(0, house.floors - 1);
            expectWord("times");
            house.callsFrom[f] = expectNumber(0, 99);
        }

        private void readLaw(Law law, boolean ofFoot) {
            tokens.next();
            expectSign(':');
            law.begin();
            boolean atomIsDue = true;
            for (int k = 0; k < MOST_BYTES && faultKind == 0; k++) {
                if (atomIsDue) atomIsDue = readAtom(law, ofFoot);
                else if (law.depth == 0 && tokens.isSign(';')) break;
                else atomIsDue = readJoint(law);
            }
            law.finish();
        }

        /** Answers whether an atom is still due behind it: so it is behind what opens. */
        private boolean readAtom(Law law, boolean ofFoot) {
            if (tokens.isSign('(')) {
                if (law.depth >= MOST_OPENED) fail(4);
                else law.open();
                tokens.next();
                return true;
            }
            int word = ofFoot ? wordOfFoot() : wordOfStop();
            if (tokens.kind == Tokens.NUMBER) law.putNumber(tokens.number);
            else if (word != NONE) law.putWord(word);
            else fail(2);
            tokens.next();
            return false;
        }

        /** Answers whether an atom is due behind it: so it is but behind what closes. */
        private boolean readJoint(Law law) {
            boolean closes = law.depth > 0 && tokens.isSign(')');
            if (closes) law.close();
            else if (tokens.isSign('+')) law.join(Law.ADD);
            else if (tokens.isSign('-')) law.join(Law.TAKE);
            else if (tokens.isSign('*')) law.join(Law.TIMES);
            else fail(2);
            tokens.next();
            return !closes;
        }

        private int wordOfFoot() {
            if (tokens.isWord("up")) return 0;
            if (tokens.isWord("load")) return 1;
            if (tokens.isWord("age")) return 2;
            return tokens.isWord("floor") ? 3 : NONE;
        }

        private int wordOfStop() {
            if (tokens.isWord("floor")) return 0;
            if (tokens.isWord("lit")) return 1;
            return tokens.isWord("lift") ? 2 : NONE;
        }

        private boolean takesWord(String word) {
            if (!tokens.isWord(word)) return false;
            tokens.next();
            return true;
        }

        private void expectWord(String word) {
            if (faultKind == 0 && !takesWord(word)) fail(2);
        }

        private void expectSign(char sign) {
            if (faultKind != 0) return;
            if (tokens.isSign(sign)) tokens.next();
            else fail(2);
        }

        /** With a fault it answers 0, which every row has a place for: what is built then is never used. */
        private int expectNumber(int low, int high) {
            if (faultKind != 0) return 0;
            if (tokens.kind != Tokens.NUMBER) fail(2);
            else if (tokens.number < low || tokens.number > high) fail(3);
            if (faultKind != 0) return 0;
            int number = tokens.number;
            tokens.next();
            return number;
        }

        /** Only the first is kept; what begins no token can stand nowhere, but is the lesser kind. */
        private void fail(int kind) {
            if (faultKind != 0) return;
            faultKind = tokens.kind == Tokens.BAD ? 1 : kind;
            faultPlace = tokens.place;
        }

        private void fillFeet() {
            for (int p = 0; p < house.people; p++) {
                for (int f = 0; f < house.floors; f++) {
                    house.footUp[p * MOST_FLOORS + f] = footLaw.isTold ? footSeconds(p, f, 1) : 10;
                    house.footDown[p * MOST_FLOORS + f] = footLaw.isTold ? footSeconds(p, f, 0) : 6;
                }
            }
            for (int p = 0; p < house.people; p++) {
                for (int f = 0; f < house.floors; f++) {
                    house.footHome[p * MOST_FLOORS + f] = house.onFoot(p, f, house.home[p]);
                }
            }
        }

        private int footSeconds(int p, int f, int up) {
            footLaw.words[0] = up;
            footLaw.words[1] = house.load[p];
            footLaw.words[2] = house.age[p];
            footLaw.words[3] = f;
            return footLaw.seconds();
        }

        private void fillStops() {
            for (int l = 0; l < house.lifts; l++) {
                for (int f = 0; f < house.floors; f++) {
                    for (int lit = 1; lit < MOST_FLOORS; lit++) {
                        int seconds = stopLaw.isTold ? stopSeconds(l, f, lit) : stopping[l];
                        house.lasting[house.lastingAt(l, f, lit)] = seconds;
                    }
                }
            }
        }

        private int stopSeconds(int l, int f, int lit) {
            stopLaw.words[0] = f;
            stopLaw.words[1] = lit;
            stopLaw.words[2] = l;
            return stopLaw.seconds();
        }
    }

    /** One lift that rides on from how it stands, beside the house: its lights may be put otherwise. */
    private static final class Trip {
        private final House house;
        private int lift = 0;
        int floor = 0;
        int second = 0;
        int lit = 0;
        int goesUp = 1;
        /** The second at which it came to the floor of its latest stop. */
        int came = 0;

        Trip(House house) {
            this.house = house;
        }

        void begin(Now now, int l) {
            lift = l;
            floor = now.liftFloor[l];
            second = now.liftSecond[l];
            lit = now.lit[l];
            goesUp = now.goesUp[l];
            came = second;
        }

        int nextStop() {
            int ahead = goesUp == 1 ? nextAbove() : nextBelow();
            if (ahead != NONE) return ahead;
            return goesUp == 1 ? nextBelow() : nextAbove();
        }

        boolean rideOn() {
            int next = nextStop();
            if (next == NONE) return false;
            came = second + house.speed[lift] * Math.abs(next - floor);
            second = came + house.lasts(lift, next, Integer.bitCount(lit));
            goesUp = next > floor ? 1 : 0;
            lit ^= 1 << next;
            floor = next;
            return true;
        }

        void rideOut() {
            for (int k = 0; k < MOST_FLOORS; k++) rideOn();
        }

        int comesTo(int f) {
            for (int k = 0; k < MOST_FLOORS && rideOn(); k++) {
                if (floor == f) return came;
            }
            return NONE;
        }

        private int nextAbove() {
            for (int f = floor + 1; f < MOST_FLOORS; f++) {
                if ((lit & 1 << f) != 0) return f;
            }
            return NONE;
        }

        private int nextBelow() {
            for (int f = floor - 1; f >= 0; f--) {
                if ((lit & 1 << f) != 0) return f;
            }
            return NONE;
        }
    }

    /** Does deeds; each answers 0, or why it can't be, and then nothing is changed. */
    private static final class Deeds {
        private final House house;
        private final Trip trip;
        private int drawn = 0;
        /** Why the deed at which doAll() ended can't be, 0 if all were done. */
        int why = 0;

        Deeds(House house) {
            this.house = house;
            trip = new Trip(house);
        }

        int lightOn(Now now, int l, int f) {
            if (!house.hasLift(l) || !house.hasFloor(f)) return 1;
            if (now.isLit(l, f) || now.liftFloor[l] == f) return 2;
            now.lit[l] |= 1 << f;
            return 0;
        }

        int lightOff(Now now, int l, int f) {
            if (!house.hasLift(l) || !house.hasFloor(f)) return 1;
            if (!now.isLit(l, f)) return 2;
            now.lit[l] ^= 1 << f;
            return 0;
        }

        int rideOnce(Now now, int l) {
            if (!house.hasLift(l)) return 1;
            trip.begin(now, l);
            if (!trip.rideOn()) return 2;
            now.liftFloor[l] = trip.floor;
            now.liftSecond[l] = trip.second;
            now.lit[l] = trip.lit;
            now.goesUp[l] = trip.goesUp;
            for (int p = 0; p < house.people; p++) {
                if (now.personIn[p] == l) {
                    now.personFloor[p] = trip.floor;
                    now.personSecond[p] = trip.came;
                }
            }
            return 0;
        }

        int getOut(Now now, int p) {
            if (!house.hasPerson(p)) return 1;
            if (now.personIn[p] == NONE) return 2;
            now.personIn[p] = NONE;
            return 0;
        }

        int getIn(Now now, int p, int l) {
            if (!house.hasPerson(p) || !house.hasLift(l)) return 1;
            if (now.personIn[p] != NONE) return 2;
            if (now.personFloor[p] != now.liftFloor[l]) return 3;
            now.personIn[p] = l;
            now.liftSecond[l] = Math.max(now.liftSecond[l], now.personSecond[p]);
            return 0;
        }

        int walkTo(Now now, int p, int f) {
            if (!house.hasPerson(p) || !house.hasFloor(f)) return 1;
            if (now.personIn[p] != NONE || now.personFloor[p] == f) return 2;
            now.personSecond[p] += house.onFoot(p, now.personFloor[p], f);
            now.personFloor[p] = f;
            return 0;
        }

        int doAll(Now now, Tray tray) {
            why = 0;
            int done = 0;
            for (int i = 0; i < tray.size && why == 0; i++) {
                why = doNumber(now, tray.get(i));
                if (why == 0) done++;
            }
            return done;
        }

        private int doNumber(Now now, long v) {
            if (v < 0 || v > 5799) return 1;
            int rest = (int) (v % 1000);
            switch ((int) (v / 1000)) {
                case 0: return lightOn(now, rest / 100, rest % 100);
                case 1: return lightOff(now, rest / 100, rest % 100);
                case 2: return rideOnce(now, rest);
                case 3: return getOut(now, rest);
                case 4: return getIn(now, rest / 10, rest % 10);
                default: return walkTo(now, rest / 100, rest % 100);
            }
        }

        int drawAll(Now now, int seed, int times) {
            drawn = seed;
            int done = 0;
            for (int i = 0; i < times; i++) {
                if (drawOne(now) == 0) done++;
            }
            return done;
        }

        private int drawOne(Now now) {
            int kind = draw(6);
            int first = draw(kind < 3 ? house.lifts : house.people);
            switch (kind) {
                case 2: return lightOn(now, first, draw(house.floors));
                case 3: return getOut(now, first);
                case 4: return getIn(now, first, draw(house.lifts));
                case 5: return walkTo(now, first, draw(house.floors));
                default: return rideOnce(now, first);
            }
        }

        private int draw(int modulo) {
            drawn = 1103515245 * drawn + 12345;
            return modulo > 0 ? (drawn >>> 16) % modulo : 0;
        }
    }

    /** Numbers of one width each; a size of NONE tells that it is missing. */
    private static final class Tray {
        int size = NONE;
        private int sort = 0;
        private final long[] row = new long[MOST_NUMBERS];

        void become(int newSort, int n) {
            sort = newSort;
            size = n;
            Arrays.fill(row, 0);
        }

        boolean isMissing() {
            return size == NONE;
        }

        boolean has(int i) {
            return i >= 0 && i < size;
        }

        long get(int i) {
            return has(i) ? row[i] : 0;
        }

        long put(int i, long v) {
            if (!has(i)) return 0;
            row[i] = cut(v);
            return row[i];
        }

        private long cut(long v) {
            switch (sort) {
                case 0: return (byte) v;
                case 1: return (short) v;
                case 2: return (int) v;
                default: return v;
            }
        }
    }

    /** What lights do to those in a lift, each of whom does what is best. */
    private static final class Lights {
        private final House house;
        private final Now now;
        private final Trip trip;
        final int[] soonest = new int[MOST_PEOPLE];
        final int[] outAt = new int[MOST_PEOPLE];
        private long sum = 0;
        private int last = 0;
        long meanAbove = 0;
        long meanBelow = 1;

        Lights(House house, Now now) {
            this.house = house;
            this.now = now;
            trip = new Trip(house);
        }

        void weigh(int l, int lit) {
            trip.begin(now, l);
            trip.lit = lit;
            for (int p = 0; p < house.people; p++) {
                outAt[p] = trip.floor;
                soonest[p] = now.personSecond[p] + house.onFootHome(p, trip.floor);
            }
            for (int k = 0; k < MOST_FLOORS && trip.rideOn(); k++) offerStop(l);
            addUp(l);
        }

        private void offerStop(int l) {
            for (int p = 0; p < house.people; p++) {
                int second = trip.came + house.onFootHome(p, trip.floor);
                if (now.personIn[p] == l && second < soonest[p]) {
                    soonest[p] = second;
                    outAt[p] = trip.floor;
                }
            }
        }

        private void addUp(int l) {
            sum = 0;
            last = 0;
            for (int p = 0; p < house.people; p++) {
                if (now.personIn[p] == l) {
                    sum += (long) soonest[p] * house.worth[p];
                    last = Math.max(last, soonest[p]);
                }
            }
        }

        long sumWith(int l, int lit) {
            weigh(l, lit);
            return sum;
        }

        int lastWith(int l, int lit) {
            weigh(l, lit);
            return last;
        }

        /** The lights to leave for the least sum or, if it is to be fair, for the soonest last one. */
        int keptFor(int l, boolean fair) {
            int kept = 0;
            long least = fair ? lastWith(l, 0) : sumWith(l, 0);
            int lit = now.lit[l];
            for (int set = 1; set <= lit; set++) {
                if ((set & ~lit) != 0) continue;
                long value = fair ? lastWith(l, set) : sumWith(l, set);
                boolean fewer = value == least && Integer.bitCount(set) < Integer.bitCount(kept);
                if (value < least || fewer) {
                    least = value;
                    kept = set;
                }
            }
            return kept;
        }

        /** The floor of these that, put the other way, makes the sum least and less than it is. */
        int toTurn(int l, int floors) {
            int found = NONE;
            long least = sumWith(l, now.lit[l]);
            for (int f = 0; f < house.floors; f++) {
                if ((floors & 1 << f) == 0) continue;
                long value = sumWith(l, now.lit[l] ^ 1 << f);
                if (value < least) {
                    least = value;
                    found = f;
                }
            }
            return found;
        }

        int unlit(int l) {
            int every = (1 << house.floors) - 1;
            return every & ~now.lit[l] & ~(1 << now.liftFloor[l]);
        }

        void letBoyPress(int l, int n) {
            int free = unlit(l);
            long before = sumWith(l, now.lit[l]);
            long more = 0;
            long choices = 0;
            for (int set = 0; set <= free; set++) {
                if ((set & ~free) != 0 || Integer.bitCount(set) != n) continue;
                more += sumWith(l, now.lit[l] | set) - before;
                choices++;
            }
            long common = commonDivisor(Math.abs(more), choices);
            meanAbove = common > 0 ? more / common : 0;
            meanBelow = common > 0 ? choices / common : 1;
        }

        private static long commonDivisor(long a, long b) {
            long greater = a;
            long lesser = b;
            for (int k = 0; k < 200 && lesser != 0; k++) {
                long left = greater % lesser;
                greater = lesser;
                lesser = left;
            }
            return greater;
        }
    }

    /** People who stay in a lift till they are home: one who waits for it, and many whom two lifts part. */
    private static final class Plans {
        private final House house;
        private final Now now;
        private final Trip trip;
        long leastSum = 0;
        int firstFloors = 0;

        Plans(House house, Now now) {
            this.house = house;
            this.now = now;
            trip = new Trip(house);
        }

        int waitFor(int p, int l) {
            int from = now.personFloor[p];
            int home = house.home[p];
            if (from == home) return now.personSecond[p];
            trip.begin(now, l);
            if (trip.floor != from) {
                trip.lit |= 1 << from;
                trip.comesTo(from);
            }
            trip.second = Math.max(trip.second, now.personSecond[p]);
            trip.lit |= 1 << home;
            return trip.comesTo(home);
        }

        void part(int l, int m) {
            int crowd = crowdOf(l, m);
            int homes = homesOf(crowd);
            firstFloors = 0;
            leastSum = homesWith(m, homes, crowd);
            for (int set = 1; set <= homes; set++) {
                if ((set & ~homes) != 0) continue;
                long value = homesWith(l, set, crowd) + homesWith(m, homes & ~set, crowd);
                if (value < leastSum) {
                    leastSum = value;
                    firstFloors = set;
                }
            }
        }

        private int crowdOf(int l, int m) {
            int floor = now.liftFloor[l];
            int bits = 0;
            for (int p = 0; p < house.people; p++) {
                boolean isFree = now.personIn[p] == NONE || now.personIn[p] == l || now.personIn[p] == m;
                if (isFree && now.personFloor[p] == floor && house.home[p] != floor) bits |= 1 << p;
            }
            return bits;
        }

        private int homesOf(int crowd) {
            int bits = 0;
            for (int p = 0; p < house.people; p++) {
                if ((crowd & 1 << p) != 0) bits |= 1 << house.home[p];
            }
            return bits;
        }

        private long homesWith(int l, int floors, int crowd) {
            trip.begin(now, l);
            trip.lit = floors;
            for (int p = 0; p < house.people; p++) {
                boolean comesAlong = (crowd & 1 << p) != 0 && (floors & 1 << house.home[p]) != 0;
                if (comesAlong) trip.second = Math.max(trip.second, now.personSecond[p]);
            }
            long sum = 0;
            for (int k = 0; k < MOST_FLOORS && trip.rideOn(); k++) {
                sum += (long) trip.came * worthAt(trip.floor, crowd);
            }
            return sum;
        }

        private int worthAt(int floor, int crowd) {
            int sum = 0;
            for (int p = 0; p < house.people; p++) {
                if ((crowd & 1 << p) != 0 && house.home[p] == floor) sum += house.worth[p];
            }
            return sum;
        }
    }

    /** The sets of lights by which a lift's next stops are those that were seen. */
    private static final class Sighting {
        private final House house;
        private final Now now;
        private final Trip trip;
        int sets = 0;
        /** How many twos, from the first on, the set that tells most of them tells. */
        int longest = 0;
        private final int[] litIn = new int[MOST_FLOORS];

        Sighting(House house, Now now) {
            this.house = house;
            this.now = now;
            trip = new Trip(house);
        }

        void gather(Tray twos, int l) {
            sets = 0;
            longest = 0;
            Arrays.fill(litIn, 0);
            for (int set = 0; set < 1 << house.floors; set++) {
                if ((set & 1 << now.liftFloor[l]) != 0) continue;
                int told = toldBy(set, twos, l);
                longest = Math.max(longest, told);
                if (told == twos.size / 2) countSet(set);
            }
        }

        private int toldBy(int set, Tray twos, int l) {
            trip.begin(now, l);
            trip.lit = set;
            int told = 0;
            for (int i = 0; i < twos.size && trip.rideOn(); i += 2) {
                if (twos.get(i) != trip.floor || twos.get(i + 1) != trip.came) break;
                told++;
            }
            return told;
        }

        private void countSet(int set) {
            sets++;
            for (int f = 0; f < MOST_FLOORS; f++) {
                if ((set & 1 << f) != 0) litIn[f]++;
            }
        }

        int inAll() {
            int bits = 0;
            for (int f = 0; f < MOST_FLOORS; f++) {
                if (sets > 0 && litIn[f] == sets) bits |= 1 << f;
            }
            return bits;
        }

        int mostEven(int l) {
            int found = NONE;
            int greatest = NONE;
            for (int f = 0; f < house.floors && sets > 0; f++) {
                int lesser = Math.min(litIn[f], sets - litIn[f]);
                if (f != now.liftFloor[l] && lesser > greatest) {
                    greatest = lesser;
                    found = f;
                }
            }
            return found;
        }
    }
}
