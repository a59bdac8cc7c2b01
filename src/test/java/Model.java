import java.util.ArrayDeque;
import java.util.ArrayList;
import java.util.Deque;
import java.util.HashMap;
import java.util.List;
import java.util.Map;
import java.util.TreeSet;

/** The document written a second time, slowly and with all of the Java library, to compare the class with. */
public final class Model {
    static final class Lift {
        int number, floor, speed = 3, stops = 8, second;
        boolean up = true;
        TreeSet<Integer> lit = new TreeSet<>();

        Lift copy() {
            Lift l = new Lift();
            l.number = number;
            l.floor = floor;
            l.speed = speed;
            l.stops = stops;
            l.second = second;
            l.up = up;
            l.lit = new TreeSet<>(lit);
            return l;
        }

        Lift copyWith(TreeSet<Integer> lights) {
            Lift l = copy();
            l.lit = new TreeSet<>(lights);
            return l;
        }

        Integer next() {
            Integer above = lit.higher(floor);
            Integer below = lit.lower(floor);
            if (up) return above != null ? above : below;
            return below != null ? below : above;
        }
    }

    static final class Person {
        int floor, second, in = -1, home, load, age, worth = 1;

        Person copy() {
            Person p = new Person();
            p.floor = floor;
            p.second = second;
            p.in = in;
            p.home = home;
            p.load = load;
            p.age = age;
            p.worth = worth;
            return p;
        }
    }

    static final class World {
        int floors = 2, lines;
        List<Lift> lifts = new ArrayList<>();
        List<Person> people = new ArrayList<>();
        int[] calls = new int[12];
        Sum foot, stop;

        World copy() {
            World w = new World();
            w.floors = floors;
            w.lines = lines;
            for (Lift l : lifts) w.lifts.add(l.copy());
            for (Person p : people) w.people.add(p.copy());
            w.calls = calls.clone();
            w.foot = foot;
            w.stop = stop;
            return w;
        }

        int steps(Person p, int f, boolean up) {
            if (foot == null) return up ? 10 : 6;
            return within(foot.of(Map.of("up", up ? 1L : 0L, "load", (long) p.load, "age", (long) p.age, "floor", (long) f)));
        }

        int walk(Person p, int f, int g) {
            if (f == g) return 0;
            return f < g ? steps(p, f, true) + walk(p, f + 1, g) : steps(p, f, false) + walk(p, f - 1, g);
        }

        int lasts(Lift l, int f, int lit) {
            if (stop == null) return l.stops;
            return within(stop.of(Map.of("floor", (long) f, "lit", (long) lit, "lift", (long) l.number)));
        }

        private static int within(long v) {
            return (int) (v < 0 ? 0 : v > 999 ? 999 : v);
        }

        /** The stops to come, each as a floor, the second it comes, the second from which it may go on. */
        List<int[]> trip(Lift from) {
            List<int[]> all = new ArrayList<>();
            Lift l = from.copy();
            while (l.next() != null) all.add(ride(l));
            return all;
        }

        int[] ride(Lift l) {
            int f = l.next();
            int came = l.second + l.speed * Math.abs(f - l.floor);
            int goes = came + lasts(l, f, l.lit.size());
            l.up = f > l.floor;
            l.lit.remove(f);
            l.floor = f;
            l.second = goes;
            return new int[] {f, came, goes};
        }

        int[] best(Person p, Lift in) {
            int[] best = {p.second + walk(p, p.floor, p.home), p.floor};
            for (int[] s : trip(in)) {
                int home = s[1] + walk(p, s[0], p.home);
                if (home < best[0]) best = new int[] {home, s[0]};
            }
            return best;
        }

        long bestOf(Lift l) {
            return people.stream().filter(p -> p.in == l.number).mapToLong(p -> (long) best(p, l)[0] * p.worth).sum();
        }

        int latest(Lift l) {
            return people.stream().filter(p -> p.in == l.number).mapToInt(p -> best(p, l)[0]).max().orElse(0);
        }
    }

    interface Sum {
        long of(Map<String, Long> words);
    }

    static final class Fault extends RuntimeException {
        private static final long serialVersionUID = 1;
        final int kind, place;

        Fault(int kind, int place) {
            this.kind = kind;
            this.place = place;
        }
    }

    /** Reads by descent, with all tokens cut ahead; a fault ends it. */
    static final class Parser {
        record Token(String text, int place, boolean isBad) {}

        final List<Token> tokens = new ArrayList<>();
        int at;
        World w = new World();

        Parser(String text) {
            int i = 0;
            while (i < text.length()) {
                char c = text.charAt(i);
                int j = i + 1;
                boolean bad = false;
                if (c == ' ' || c == '\n') {
                    i = j;
                    continue;
                }
                if (c >= 'a' && c <= 'z') while (j < text.length() && text.charAt(j) >= 'a' && text.charAt(j) <= 'z') j++;
                else if (c >= '0' && c <= '9') {
                    while (j < text.length() && text.charAt(j) >= '0' && text.charAt(j) <= '9') j++;
                    bad = j - i > 3;
                } else bad = ";:+-*()".indexOf(c) < 0;
                tokens.add(new Token(text.substring(i, j), i, bad));
                i = j;
            }
            tokens.add(new Token("", text.length(), false));
        }

        Token now() {
            return tokens.get(at);
        }

        Fault fault(int kind) {
            return new Fault(now().isBad ? 1 : kind, now().place);
        }

        boolean sees(String t) {
            return !now().isBad && now().text.equals(t);
        }

        boolean seesNumber() {
            return !now().isBad && now().text.matches("\\d+");
        }

        boolean takes(String t) {
            if (!sees(t)) return false;
            at++;
            return true;
        }

        void must(String t) {
            if (!takes(t)) throw fault(2);
        }

        int number(int low, int high) {
            if (!seesNumber()) throw fault(2);
            int n = Integer.parseInt(now().text);
            if (n < low || n > high) throw fault(3);
            at++;
            return n;
        }

        int floor() {
            return number(0, w.floors - 1);
        }

        World parse() {
            must("house");
            w.floors = number(2, 12);
            must(";");
            w.lines = 1;
            while (!sees("")) {
                line();
                must(";");
                w.lines++;
            }
            return w;
        }

        void line() {
            if (sees("lift")) {
                if (w.lifts.size() == 3) throw fault(4);
                at++;
                lift();
            } else if (sees("person")) {
                if (w.people.size() == 8) throw fault(4);
                at++;
                person();
            } else if (takes("foot")) {
                must(":");
                w.foot = sum(List.of("up", "load", "age", "floor"), 0);
            } else if (takes("stop")) {
                must(":");
                w.stop = sum(List.of("floor", "lit", "lift"), 0);
            } else if (takes("calls")) {
                int f = floor();
                must("times");
                w.calls[f] = number(0, 99);
            } else throw fault(2);
        }

        void lift() {
            Lift l = new Lift();
            l.number = w.lifts.size();
            must("at");
            l.floor = floor();
            while (!sees(";")) {
                if (takes("speed")) l.speed = number(1, 60);
                else if (takes("stops")) l.stops = number(0, 99);
                else if (takes("down")) l.up = false;
                else if (takes("lit")) {
                    l.lit.clear();
                    do {
                        if (seesNumber() && Integer.parseInt(now().text) == l.floor) throw fault(3);
                        l.lit.add(floor());
                    } while (seesNumber());
                } else throw fault(2);
            }
            w.lifts.add(l);
        }

        void person() {
            Person p = new Person();
            must("home");
            p.home = floor();
            while (!sees(";")) {
                if (takes("at")) {
                    p.floor = floor();
                    p.in = -1;
                } else if (takes("in")) {
                    p.in = number(0, w.lifts.size() - 1);
                    p.floor = w.lifts.get(p.in).floor;
                } else if (takes("load")) p.load = number(0, 99);
                else if (takes("age")) p.age = number(0, 99);
                else if (takes("worth")) p.worth = number(1, 99);
                else throw fault(2);
            }
            w.people.add(p);
        }

        static long kept(long v) {
            return Math.max(-1_000_000, Math.min(1_000_000, v));
        }

        Sum sum(List<String> words, int depth) {
            Sum left = term(words, depth);
            while (sees("+") || sees("-")) {
                boolean adds = sees("+");
                at++;
                Sum l = left;
                Sum r = term(words, depth);
                left = adds ? v -> kept(l.of(v) + r.of(v)) : v -> kept(l.of(v) - r.of(v));
            }
            return left;
        }

        Sum term(List<String> words, int depth) {
            Sum left = atom(words, depth);
            while (takes("*")) {
                Sum l = left;
                Sum r = atom(words, depth);
                left = v -> kept(l.of(v) * r.of(v));
            }
            return left;
        }

        Sum atom(List<String> words, int depth) {
            if (sees("(")) {
                if (depth == 6) throw fault(4);
                at++;
                Sum s = sum(words, depth + 1);
                must(")");
                return s;
            }
            if (seesNumber()) {
                long n = number(0, 999);
                return v -> n;
            }
            String word = now().text;
            if (now().isBad || !words.contains(word)) throw fault(2);
            at++;
            return v -> v.get(word);
        }
    }

    private StringBuilder tape = new StringBuilder();
    private World w = new World();
    private Deque<World> past = new ArrayDeque<>();
    private final World[] images = new World[2];
    private final long[][] trays = new long[4][];
    private final int[] sorts = new int[4];
    private Fault fault = new Fault(0, -1);

    // ---- the house

    public int feed(int a, int b, int c, int d, int e) {
        if (tape.length() + 20 > 900) return -5;
        for (int v : new int[] {a, b, c, d, e}) {
            for (int s = 24; s >= 0; s -= 8) tape.append((char) (v >>> s & 255));
        }
        return tape.length();
    }

    public int house(int n) {
        if (n < 0 || n > tape.length()) return -3;
        String text = tape.substring(0, n);
        tape = new StringBuilder();
        try {
            w = new Parser(text).parse();
            past.clear();
            fault = new Fault(0, -1);
            return w.lines;
        } catch (Fault f) {
            fault = f;
            return -30 - f.kind;
        }
    }

    public int fault(int what) {
        return what == 0 ? fault.kind : what == 1 ? fault.place : -1;
    }

    private boolean noLift(int l) {
        return l < 0 || l >= w.lifts.size();
    }

    private boolean noPerson(int p) {
        return p < 0 || p >= w.people.size();
    }

    private boolean noFloor(long f) {
        return f < 0 || f >= w.floors;
    }

    private static int bits(Iterable<Integer> set) {
        int b = 0;
        for (int f : set) b += 1 << f;
        return b;
    }

    public int lift(int l, int what) {
        if (noLift(l) || what < 0 || what > 6) return -8;
        Lift x = w.lifts.get(l);
        int in = 0;
        for (int p = 0; p < w.people.size(); p++) in += w.people.get(p).in == l ? 1 << p : 0;
        int next = x.next() == null ? -1 : x.next();
        return new int[] {x.floor, x.second, bits(x.lit), x.up ? 1 : 0, in, x.speed, next}[what];
    }

    public int person(int p, int what) {
        if (noPerson(p) || what < 0 || what > 6) return -8;
        Person x = w.people.get(p);
        return new int[] {x.floor, x.second, x.in, x.home, x.load, x.age, x.worth}[what];
    }

    public int foot(int p, int f, int g) {
        return noPerson(p) || noFloor(f) || noFloor(g) ? -2 : w.walk(w.people.get(p), f, g);
    }

    public int stop(int l, int f, int lit) {
        if (noLift(l) || noFloor(f)) return -2;
        return lit < 1 || lit > 11 ? -3 : w.lasts(w.lifts.get(l), f, lit);
    }

    public int calls(int f) {
        return noFloor(f) ? -2 : w.calls[f];
    }

    // ---- deeds: each kind of deed as its number, done on a copy of the world

    private static int deed(World w, long v) {
        if (v < 0 || v > 5799) return 1;
        int kind = (int) (v / 1000);
        int r = (int) (v % 1000);
        int lift = kind < 2 ? r / 100 : kind == 2 ? r : kind == 4 ? r % 10 : 0;
        int person = kind == 3 ? r : kind == 4 ? r / 10 : kind == 5 ? r / 100 : 0;
        int floor = kind < 2 || kind == 5 ? r % 100 : 0;
        boolean ofLift = kind < 3 || kind == 4;
        boolean ofPerson = kind > 2;
        if (ofLift && lift >= w.lifts.size() || ofPerson && person >= w.people.size() || floor >= w.floors) return 1;
        Lift l = ofLift ? w.lifts.get(lift) : null;
        Person p = ofPerson ? w.people.get(person) : null;
        if (kind == 0) {
            if (l.lit.contains(floor) || l.floor == floor) return 2;
            l.lit.add(floor);
        } else if (kind == 1) {
            if (!l.lit.remove(floor)) return 2;
        } else if (kind == 2) {
            if (l.lit.isEmpty()) return 2;
            int[] s = w.ride(l);
            for (Person q : w.people) {
                if (q.in != lift) continue;
                q.floor = s[0];
                q.second = s[1];
            }
        } else if (kind == 3) {
            if (p.in < 0) return 2;
            p.in = -1;
        } else if (kind == 4) {
            if (p.in >= 0) return 2;
            if (p.floor != l.floor) return 3;
            p.in = lift;
            if (l.second < p.second) l.second = p.second;
        } else {
            if (p.in >= 0 || p.floor == floor) return 2;
            p.second += w.walk(p, p.floor, floor);
            p.floor = floor;
        }
        return 0;
    }

    private void keep(World before) {
        past.push(before);
        if (past.size() > 10) past.removeLast();
    }

    private int one(long v) {
        World before = w.copy();
        int why = deed(w, v);
        if (why == 0) keep(before);
        return why;
    }

    public int press(int l, int f) {
        int why = noLift(l) || noFloor(f) ? 1 : one(l * 100 + f);
        return why != 0 ? -10 - why : w.lifts.get(l).lit.size();
    }

    public int pressOff(int l, int f) {
        int why = noLift(l) || noFloor(f) ? 1 : one(1000 + l * 100 + f);
        return why != 0 ? -10 - why : w.lifts.get(l).lit.size();
    }

    public int rides(int l) {
        int why = noLift(l) ? 1 : one(2000 + l);
        return why != 0 ? -10 - why : w.lifts.get(l).floor;
    }

    public int out(int p) {
        int why = noPerson(p) ? 1 : one(3000 + p);
        return why != 0 ? -10 - why : w.people.get(p).floor;
    }

    public int in(int p, int l) {
        int why = noPerson(p) || noLift(l) ? 1 : one(4000 + p * 10 + l);
        return why != 0 ? -10 - why : w.lifts.get(l).second;
    }

    public int walks(int p, int f) {
        int why = noPerson(p) || noFloor(f) ? 1 : one(5000 + p * 100 + f);
        return why != 0 ? -10 - why : w.people.get(p).second;
    }

    public int undo(int n) {
        if (n < 1 || n > 10 || n > past.size()) return -3;
        for (int i = 0; i < n; i++) w = past.pop();
        return past.size();
    }

    private static int atHome(World w) {
        int b = 0;
        for (int p = 0; p < w.people.size(); p++) {
            Person x = w.people.get(p);
            if (x.in < 0 && x.floor == x.home) b |= 1 << p;
        }
        return b;
    }

    private static int lights(World w) {
        return w.lifts.stream().mapToInt(l -> l.lit.size()).sum();
    }

    public int judge(int tray, int what) {
        if (tray < 0 || tray > 3 || what < 0 || what > 3) return -2;
        if (trays[tray] == null) return -6;
        World x = w.copy();
        int place = -1;
        int why = 0;
        for (int i = 0; i < trays[tray].length && why == 0; i++) {
            why = deed(x, trays[tray][i]);
            if (why != 0) place = i;
        }
        return new int[] {place, why, atHome(x), lights(x)}[what];
    }

    public int perform(int tray) {
        if (tray < 0 || tray > 3) return -2;
        if (trays[tray] == null) return -6;
        World before = w.copy();
        int done = 0;
        while (done < trays[tray].length && deed(w, trays[tray][done]) == 0) done++;
        if (done > 0) keep(before);
        return done;
    }

    private int drawn;

    private int draw(int modulo) {
        drawn = 1103515245 * drawn + 12345;
        return (drawn >>> 16) % modulo;
    }

    public int evenings(int seed, int times) {
        if (times < 1 || times > 40) return -3;
        if (w.lifts.isEmpty() || w.people.isEmpty()) return -5;
        drawn = seed;
        World before = w.copy();
        int done = 0;
        for (int i = 0; i < times; i++) {
            int kind = draw(6);
            long v;
            if (kind < 2) v = 2000 + draw(w.lifts.size());
            else if (kind == 2) v = 100 * draw(w.lifts.size()) + draw(w.floors);
            else if (kind == 3) v = 3000 + draw(w.people.size());
            else if (kind == 4) v = 4000 + 10 * draw(w.people.size()) + draw(w.lifts.size());
            else v = 5000 + 100 * draw(w.people.size()) + draw(w.floors);
            if (deed(w, v) == 0) done++;
        }
        if (done > 0) keep(before);
        return done;
    }

    // ---- stops to come

    public int stops(int l) {
        return noLift(l) ? -2 : w.trip(w.lifts.get(l)).size();
    }

    public int stopAt(int l, int k) {
        if (noLift(l)) return -2;
        if (k < 0) return -3;
        List<int[]> t = w.trip(w.lifts.get(l));
        return k < t.size() ? t.get(k)[0] : -1;
    }

    public int comes(int l, int f) {
        if (noLift(l) || noFloor(f)) return -2;
        for (int[] s : w.trip(w.lifts.get(l))) if (s[0] == f) return s[1];
        return -1;
    }

    public int restsBy(int l) {
        if (noLift(l)) return -2;
        List<int[]> t = w.trip(w.lifts.get(l));
        return t.isEmpty() ? w.lifts.get(l).second : t.get(t.size() - 1)[2];
    }

    // ---- whether to walk

    private int walkHome(Person p) {
        return p.second + w.walk(p, p.floor, p.home);
    }

    public int best(int p, int what) {
        if (noPerson(p) || what < 0 || what > 1) return -2;
        Person x = w.people.get(p);
        if (x.in < 0) return what == 0 ? walkHome(x) : -1;
        return w.best(x, w.lifts.get(x.in))[what];
    }

    public int homeBy(int p, int f) {
        if (noPerson(p) || noFloor(f)) return -2;
        Person x = w.people.get(p);
        if (x.in < 0) return -5;
        if (f == x.floor) return walkHome(x);
        int c = comes(x.in, f);
        return c < 0 ? -1 : c + w.walk(x, f, x.home);
    }

    public long all(int l) {
        return noLift(l) ? -2 : w.bestOf(w.lifts.get(l));
    }

    public int latest(int l) {
        return noLift(l) ? -2 : w.latest(w.lifts.get(l));
    }

    public int walkers(int l) {
        if (noLift(l)) return -2;
        int b = 0;
        for (int p = 0; p < w.people.size(); p++) {
            if (w.people.get(p).in == l && best(p, 1) != w.people.get(p).home) b |= 1 << p;
        }
        return b;
    }

    public int waits(int p, int l) {
        if (noPerson(p) || noLift(l)) return -2;
        World x = w.copy();
        Person me = x.people.get(p);
        Lift it = x.lifts.get(l);
        if (me.in >= 0) return -5;
        if (me.floor == me.home) return me.second;
        if (it.floor != me.floor) it.lit.add(me.floor);
        while (it.floor != me.floor) deed(x, 2000 + l);
        deed(x, 4000 + 10 * p + l);
        it.lit.add(me.home);
        while (me.floor != me.home) deed(x, 2000 + l);
        return me.second;
    }

    public int choice(int p) {
        if (noPerson(p)) return -2;
        if (w.people.get(p).in >= 0) return -5;
        int found = -1;
        for (int l = w.lifts.size() - 1; l >= 0; l--) {
            int other = found < 0 ? Integer.MAX_VALUE : waits(p, found);
            if (waits(p, l) <= other) found = l;
        }
        return found < 0 || walkHome(w.people.get(p)) <= waits(p, found) ? -1 : found;
    }

    // ---- lights

    private static List<TreeSet<Integer>> subsets(TreeSet<Integer> of) {
        List<TreeSet<Integer>> all = new ArrayList<>();
        all.add(new TreeSet<>());
        for (int f : of) {
            for (int i = all.size() - 1; i >= 0; i--) {
                TreeSet<Integer> more = new TreeSet<>(all.get(i));
                more.add(f);
                all.add(more);
            }
        }
        return all;
    }

    private TreeSet<Integer> kept(int l, boolean fair) {
        Lift x = w.lifts.get(l);
        TreeSet<Integer> found = null;
        long[] best = null;
        for (TreeSet<Integer> s : subsets(x.lit)) {
            Lift y = x.copyWith(s);
            long[] key = {fair ? w.latest(y) : w.bestOf(y), s.size(), bits(s)};
            if (best == null || java.util.Arrays.compare(key, best) < 0) {
                best = key;
                found = s;
            }
        }
        return found;
    }

    public long least(int l, int what) {
        if (noLift(l) || what < 0 || what > 1) return -2;
        TreeSet<Integer> s = kept(l, false);
        return what == 1 ? bits(s) : w.bestOf(w.lifts.get(l).copyWith(s));
    }

    public int fairest(int l, int what) {
        if (noLift(l) || what < 0 || what > 1) return -2;
        TreeSet<Integer> s = kept(l, true);
        return what == 1 ? bits(s) : w.latest(w.lifts.get(l).copyWith(s));
    }

    private long turned(int l, int f) {
        Lift x = w.lifts.get(l).copy();
        if (!x.lit.remove(f)) x.lit.add(f);
        return w.bestOf(x);
    }

    public long costs(int l, int f) {
        if (noLift(l) || noFloor(f) || !w.lifts.get(l).lit.contains(f)) return -2000000000;
        return all(l) - turned(l, f);
    }

    private TreeSet<Integer> unlit(int l) {
        TreeSet<Integer> s = new TreeSet<>();
        for (int f = 0; f < w.floors; f++) s.add(f);
        s.removeAll(w.lifts.get(l).lit);
        s.remove(w.lifts.get(l).floor);
        return s;
    }

    private int bestTurn(int l, TreeSet<Integer> of) {
        long least = all(l);
        for (int f : of) least = Math.min(least, turned(l, f));
        if (least == all(l)) return -1;
        for (int f : of) if (turned(l, f) == least) return f;
        return -1;
    }

    public int worstLight(int l) {
        return noLift(l) ? -2 : bestTurn(l, w.lifts.get(l).lit);
    }

    public int bestLight(int l) {
        return noLift(l) ? -2 : bestTurn(l, unlit(l));
    }

    public long boy(int l, int n, int what) {
        if (noLift(l) || what < 0 || what > 1 || n < 0 || n > 11 || n > unlit(l).size()) return -2000000000;
        java.math.BigInteger above = java.math.BigInteger.ZERO;
        java.math.BigInteger below = java.math.BigInteger.ZERO;
        for (TreeSet<Integer> s : subsets(unlit(l))) {
            if (s.size() != n) continue;
            s.addAll(w.lifts.get(l).lit);
            above = above.add(java.math.BigInteger.valueOf(w.bestOf(w.lifts.get(l).copyWith(s)) - all(l)));
            below = below.add(java.math.BigInteger.ONE);
        }
        return (what == 0 ? above : below).divide(above.gcd(below)).longValueExact();
    }

    // ---- two lifts

    public long parting(int l, int m, int what) {
        if (noLift(l) || noLift(m) || l == m || what < 0 || what > 1) return -2;
        int floor = w.lifts.get(l).floor;
        if (floor != w.lifts.get(m).floor) return -5;
        TreeSet<Integer> homes = new TreeSet<>();
        Map<Person, Integer> crowd = new HashMap<>();
        for (Person p : w.people) {
            if (p.floor != floor || p.home == floor || p.in >= 0 && p.in != l && p.in != m) continue;
            homes.add(p.home);
            crowd.put(p, p.home);
        }
        long least = Long.MAX_VALUE;
        int found = 0;
        for (TreeSet<Integer> s : subsets(homes)) {
            TreeSet<Integer> others = new TreeSet<>(homes);
            others.removeAll(s);
            long sum = part(w.lifts.get(l).copyWith(s), crowd) + part(w.lifts.get(m).copyWith(others), crowd);
            if (sum < least || sum == least && bits(s) < found) {
                least = sum;
                found = bits(s);
            }
        }
        return what == 0 ? least : found;
    }

    private long part(Lift l, Map<Person, Integer> crowd) {
        for (Person p : crowd.keySet()) {
            if (l.lit.contains(p.home) && p.second > l.second) l.second = p.second;
        }
        long sum = 0;
        for (int[] s : w.trip(l)) {
            for (Person p : crowd.keySet()) sum += p.home == s[0] ? (long) s[1] * p.worth : 0;
        }
        return sum;
    }

    public int rest() {
        int found = w.floors - 1;
        for (int f = found; f >= 0; f--) if (away(f) <= away(found)) found = f;
        return found;
    }

    public int away(int f) {
        if (noFloor(f)) return -2;
        int sum = 0;
        for (int g = 0; g < 12; g++) sum += w.calls[g] * (f > g ? f - g : g - f);
        return sum;
    }

    public int nearest(int f) {
        if (noFloor(f)) return -2;
        for (int d = 0; d < 12; d++) {
            for (Lift l : w.lifts) if (Math.abs(l.floor - f) == d) return l.number;
        }
        return -1;
    }

    // ---- lights that were lit

    private int seenCode(int tray, int l) {
        if (tray < 0 || tray > 3 || noLift(l)) return -2;
        long[] t = trays[tray];
        if (t == null) return -6;
        if (t.length % 2 != 0 || t.length < 2 || t.length > 16) return -4;
        for (int i = 0; i < t.length; i += 2) if (noFloor(t[i]) || t[i + 1] < 0) return -3;
        return 0;
    }

    private List<TreeSet<Integer>> sets(int tray, int l, int twos) {
        TreeSet<Integer> others = new TreeSet<>(unlit(l));
        others.addAll(w.lifts.get(l).lit);
        List<TreeSet<Integer>> found = new ArrayList<>();
        for (TreeSet<Integer> s : subsets(others)) {
            List<int[]> t = w.trip(w.lifts.get(l).copyWith(s));
            boolean fits = t.size() >= twos;
            for (int i = 0; i < twos && fits; i++) {
                fits = t.get(i)[0] == trays[tray][2 * i] && t.get(i)[1] == trays[tray][2 * i + 1];
            }
            if (fits) found.add(s);
        }
        return found;
    }

    private List<TreeSet<Integer>> sets(int tray, int l) {
        return sets(tray, l, trays[tray].length / 2);
    }

    public int seen(int tray, int l) {
        int code = seenCode(tray, l);
        return code != 0 ? code : sets(tray, l).size();
    }

    public int sure(int tray, int l) {
        int code = seenCode(tray, l);
        if (code != 0) return code;
        List<TreeSet<Integer>> all = sets(tray, l);
        return all.isEmpty() ? 0 : all.stream().mapToInt(Model::bits).reduce(-1, (a, b) -> a & b);
    }

    public int look(int tray, int l) {
        int code = seenCode(tray, l);
        if (code != 0) return code;
        List<TreeSet<Integer>> all = sets(tray, l);
        int found = -1;
        long greatest = -1;
        for (int f = w.floors - 1; f >= 0 && !all.isEmpty(); f--) {
            if (f == w.lifts.get(l).floor) continue;
            int g = f;
            long lit = all.stream().filter(s -> s.contains(g)).count();
            long lesser = Math.min(lit, all.size() - lit);
            if (lesser >= greatest) {
                greatest = lesser;
                found = f;
            }
        }
        return found;
    }

    public int odd(int tray, int l) {
        int code = seenCode(tray, l);
        if (code != 0) return code;
        for (int i = 0; i < trays[tray].length / 2; i++) if (sets(tray, l, i + 1).isEmpty()) return i;
        return -1;
    }

    // ---- trays, images

    public int numbers(int tray, int sort, int n) {
        if (tray < 0 || tray > 3 || sort < 0 || sort > 3) return -2;
        if (n < 0 || n > 40) return -3;
        trays[tray] = new long[n];
        sorts[tray] = sort;
        return 0;
    }

    public long write(int tray, int i, long v) {
        if (tray < 0 || tray > 3) return -2;
        if (trays[tray] == null) return -6;
        if (i < 0 || i >= trays[tray].length) return -7;
        int away = 64 - (8 << sorts[tray]);
        trays[tray][i] = v << away >> away;
        return trays[tray][i];
    }

    public int lists(int tray, int l) {
        if (tray < 0 || tray > 3 || noLift(l)) return -2;
        if (trays[tray] == null) return -6;
        List<Integer> all = new ArrayList<>();
        for (int[] s : w.trip(w.lifts.get(l))) {
            all.add(s[0]);
            all.add(s[1]);
        }
        int places = Math.min(all.size(), trays[tray].length);
        for (int i = 0; i < places; i++) write(tray, i, all.get(i));
        return places;
    }

    public int image(int i) {
        if (i < 0 || i > 1) return -2;
        images[i] = w.copy();
        return 0;
    }

    public int restore(int i) {
        if (i < 0 || i > 1) return -2;
        if (images[i] == null) return -5;
        w = images[i].copy();
        past.clear();
        return 0;
    }

    public int count(int what) {
        switch (what) {
            case 0: return w.floors;
            case 1: return w.lifts.size();
            case 2: return w.people.size();
            case 3: return (int) w.people.stream().filter(p -> p.in >= 0).count();
            case 4: return Integer.bitCount(atHome(w));
            case 5: return lights(w);
            case 6: return past.size();
            case 7: return tape.length();
            case 8: return w.lines;
            default: return -1;
        }
    }
}
