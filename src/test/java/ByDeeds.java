import java.math.BigInteger;
import java.util.function.Supplier;

/** What the document says of plans, found out by deeds: each try on an object of its own, made anew. */
final class ByDeeds {
    private final Supplier<AllPressed> made;

    ByDeeds(Supplier<AllPressed> made) {
        this.made = made;
    }

    /** Lights put to this set, whatever was lit. */
    static void light(AllPressed x, int l, int set) {
        for (int f = 0; f < x.count(0); f++) {
            boolean isLit = (x.lift(l, 2) >> f & 1) == 1;
            boolean isWanted = (set >> f & 1) == 1;
            if (isLit && !isWanted) x.pressOff(l, f);
            if (!isLit && isWanted) x.press(l, f);
        }
    }

    private AllPressed lit(int l, int set) {
        AllPressed x = made.get();
        light(x, l, set);
        return x;
    }

    /** When each person in a lift is home at best: it gets out at each place there is, and walks. */
    static int[] best(Supplier<AllPressed> made, int p) {
        AllPressed x = made.get();
        int home = x.person(p, 3);
        int l = x.person(p, 2);
        if (l < 0) return new int[] {walked(x, p, home), -1};
        int[] best = null;
        for (int k = 0; k <= x.stops(l); k++) {
            AllPressed y = made.get();
            for (int i = 0; i < k; i++) y.rides(l);
            int floor = y.out(p);
            int second = walked(y, p, home);
            if (best == null || second < best[0]) best = new int[] {second, floor};
        }
        return best;
    }

    private static int walked(AllPressed x, int p, int home) {
        return x.person(p, 0) == home ? x.person(p, 1) : x.walks(p, home);
    }

    /** The least value, and by which set of lights, of the best sum or of the latest one. */
    long[] kept(int l, boolean fair) {
        int lit = made.get().lift(l, 2);
        long[] found = null;
        for (int set = lit; set >= 0; set--) {
            if ((set & ~lit) != 0) continue;
            AllPressed x = lit(l, set);
            long value = fair ? x.latest(l) : x.all(l);
            boolean isLess = found == null || value < found[0];
            boolean isLike = !isLess && value == found[0];
            int fewer = isLike ? Integer.compare(Integer.bitCount(set), Integer.bitCount((int) found[1])) : 0;
            if (isLess || isLike && (fewer < 0 || fewer == 0 && set < found[1])) found = new long[] {value, set};
        }
        return found;
    }

    long turned(int l, int f) {
        int lit = made.get().lift(l, 2);
        return lit(l, lit ^ 1 << f).all(l);
    }

    /** The lowest floor of these by which, turned, the sum is least and less than now. */
    int toTurn(int l, int floors) {
        long least = made.get().all(l);
        int found = -1;
        for (int f = 11; f >= 0; f--) {
            if ((floors >> f & 1) == 0) continue;
            long value = turned(l, f);
            if (value < least || value == least && found >= 0) {
                least = value;
                found = f;
            }
        }
        return found;
    }

    int unlit(int l) {
        AllPressed x = made.get();
        return (1 << x.count(0)) - 1 & ~x.lift(l, 2) & ~(1 << x.lift(l, 0));
    }

    /** The mean as a number above and one below. */
    long[] boy(int l, int n) {
        AllPressed x = made.get();
        int free = unlit(l);
        long more = 0;
        long choices = 0;
        for (int set = free; set >= 0; set--) {
            if ((set & ~free) != 0 || Integer.bitCount(set) != n) continue;
            more += lit(l, x.lift(l, 2) | set).all(l) - x.all(l);
            choices++;
        }
        long common = BigInteger.valueOf(more).gcd(BigInteger.valueOf(choices)).longValueExact();
        return new long[] {more / common, choices / common};
    }

    int waits(int p, int l) {
        AllPressed x = made.get();
        int home = x.person(p, 3);
        if (x.person(p, 0) == home) return x.person(p, 1);
        x.press(l, x.person(p, 0));
        while (x.in(p, l) == -13) x.rides(l);
        x.press(l, home);
        while (x.person(p, 0) != home) x.rides(l);
        return x.person(p, 1);
    }

    /** The least sum, and the first one's floors. */
    long[] parting(int l, int m) {
        AllPressed x = made.get();
        int floor = x.lift(l, 0);
        int crowd = 0;
        int homes = 0;
        for (int p = 0; p < x.count(2); p++) {
            int in = x.person(p, 2);
            if (x.person(p, 0) != floor || x.person(p, 3) == floor || in >= 0 && in != l && in != m) continue;
            crowd |= 1 << p;
            homes |= 1 << x.person(p, 3);
        }
        long[] found = null;
        for (int set = homes; set >= 0; set--) {
            if ((set & ~homes) != 0) continue;
            long sum = parted(l, m, crowd, homes, set);
            if (found == null || sum <= found[0]) found = new long[] {sum, set};
        }
        return found;
    }

    private long parted(int l, int m, int crowd, int homes, int set) {
        AllPressed x = made.get();
        for (int p = 0; p < x.count(2); p++) {
            if ((crowd >> p & 1) == 1) x.out(p);
        }
        light(x, l, set);
        light(x, m, homes & ~set);
        for (int p = 0; p < x.count(2); p++) {
            if ((crowd >> p & 1) == 1) x.in(p, (set >> x.person(p, 3) & 1) == 1 ? l : m);
        }
        long sum = 0;
        for (int lift : new int[] {l, m}) {
            while (x.rides(lift) >= 0) {
                for (int p = 0; p < x.count(2); p++) {
                    boolean isHome = x.person(p, 2) == lift && x.person(p, 3) == x.person(p, 0) && (crowd >> p & 1) == 1;
                    if (isHome) sum += (long) x.person(p, 1) * x.person(p, 6);
                }
            }
        }
        return sum;
    }

    /** How many sets of lights let the first of these twos be, and, as bits, the floors of each that lets all. */
    int[] seen(int l, long[] twos) {
        AllPressed x = made.get();
        int others = (1 << x.count(0)) - 1 & ~(1 << x.lift(l, 0));
        int[] found = new int[4096];
        int sets = 0;
        for (int set = 0; set <= others; set++) {
            if ((set & ~others) != 0) continue;
            AllPressed y = lit(l, set);
            boolean fits = true;
            for (int i = 0; i < twos.length && fits; i += 2) {
                int floor = y.stopAt(l, i / 2);
                fits = floor == twos[i] && y.comes(l, floor) == twos[i + 1];
            }
            if (fits) found[sets++] = set;
        }
        return java.util.Arrays.copyOf(found, sets);
    }

    /** The draws by longs, the deeds by calls. */
    static int evenings(AllPressed x, int seed, int times) {
        long drawn = seed & 0xffffffffL;
        int done = 0;
        for (int i = 0; i < times; i++) {
            long[] d = new long[4];
            long after = drawn;
            long[] states = new long[4];
            for (int k = 0; k < 4; k++) {
                after = after * 1103515245L + 12345L & 0xffffffffL;
                states[k] = after;
                d[k] = after / 65536;
            }
            int lifts = x.count(1);
            int people = x.count(2);
            int floors = x.count(0);
            int used;
            int answer;
            switch ((int) (d[0] % 6)) {
                case 0: case 1:
                    answer = x.rides((int) (d[1] % lifts));
                    used = 2;
                    break;
                case 2:
                    answer = x.press((int) (d[1] % lifts), (int) (d[2] % floors));
                    used = 3;
                    break;
                case 3:
                    answer = x.out((int) (d[1] % people));
                    used = 2;
                    break;
                case 4:
                    answer = x.in((int) (d[1] % people), (int) (d[2] % lifts));
                    used = 3;
                    break;
                default:
                    answer = x.walks((int) (d[1] % people), (int) (d[2] % floors));
                    used = 3;
            }
            drawn = states[used - 1];
            if (answer >= 0) done++;
        }
        return done;
    }
}
