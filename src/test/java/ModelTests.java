import java.lang.reflect.Method;
import java.nio.charset.StandardCharsets;
import java.util.ArrayList;
import java.util.Comparator;
import java.util.List;
import java.util.Random;

/** Random runs of up to 512 calls: the class and the model must answer alike. Seeds are fixed, or told as arguments. */
public final class ModelTests {
    private final Random random;
    private final String run;
    private final AllPressed x = new AllPressed();
    private final Model y = new Model();
    private int used = 0;
    private boolean isWrong = false;

    private ModelTests(long seed) {
        random = new Random(seed);
        run = "run " + seed;
    }

    public static void main(String[] args) throws ReflectiveOperationException {
        int first = args.length > 0 ? Integer.parseInt(args[0]) : 1;
        int last = args.length > 1 ? Integer.parseInt(args[1]) : 150;
        for (int seed = first; seed <= last; seed++) new ModelTests(seed).play();
        Check.end();
    }

    private int below(int n) {
        return random.nextInt(n);
    }

    private long call(String name, long... args) throws ReflectiveOperationException {
        Method mine = null;
        for (Method m : AllPressed.class.getMethods()) if (m.getName().equals(name)) mine = m;
        Method other = Model.class.getMethod(name, mine.getParameterTypes());
        Object[] given = new Object[args.length];
        StringBuilder told = new StringBuilder();
        for (int i = 0; i < args.length; i++) {
            boolean isLong = mine.getParameterTypes()[i] == long.class;
            if (isLong) given[i] = args[i];
            else given[i] = (int) args[i];
            told.append(i > 0 ? ", " : "").append(args[i]);
        }
        used++;
        long got = ((Number) mine.invoke(x, given)).longValue();
        long want = ((Number) other.invoke(y, given)).longValue();
        if (got != want) isWrong = true;
        Check.due(run + ": call " + used + " " + name + "(" + told + ")", got, want);
        return got;
    }

    private void play() throws ReflectiveOperationException {
        List<Method> face = new ArrayList<>();
        for (Method m : AllPressed.class.getDeclaredMethods()) {
            if (java.lang.reflect.Modifier.isPublic(m.getModifiers())) face.add(m);
        }
        face.sort(Comparator.comparing(Method::getName));
        tellHouse(false);
        while (used < 450 && !isWrong) {
            int dice = below(60);
            if (dice == 0) tellHouse(below(2) == 0);
            else if (dice < 4) fillTray();
            else if (dice < 6) watch();
            else {
                Method m = face.get(below(face.size()));
                boolean shakesHouse = m.getName().equals("house") || m.getName().equals("feed");
                if (!shakesHouse || below(20) == 0) call(m.getName(), arguments(m));
            }
        }
    }

    private long[] arguments(Method m) {
        long[] args = new long[m.getParameterCount()];
        for (int i = 0; i < args.length; i++) args[i] = argument(m.getName(), i);
        return args;
    }

    private long argument(String name, int i) {
        if (below(40) == 0) return new long[] {-1, Integer.MIN_VALUE, Integer.MAX_VALUE, 12, 100}[below(5)];
        boolean ofTray = List.of("judge", "perform", "seen", "sure", "look", "odd", "numbers", "write", "lists").contains(name);
        if (ofTray && i == 0) return below(4);
        switch (name) {
            case "lift": case "person": return i == 0 ? below(5) : below(8);
            case "evenings": return i == 0 ? random.nextInt() : 1 + below(below(4) == 0 ? 41 : 5);
            case "undo": return 1 + below(3);
            case "numbers": return i == 1 ? below(4) : below(20);
            case "write": return i == 1 ? below(16) : number();
            case "boy": return i == 1 ? below(5) : below(3);
            case "stop": return i == 2 ? below(13) : i == 1 ? below(12) : below(3);
            case "least": case "fairest": case "best": case "parting": return below(3);
            case "image": case "restore": return below(3);
            case "judge": return below(4);
            case "in": return i == 0 ? below(8) : below(3);
            default: return below(i == 0 ? 4 : 9);
        }
    }

    private long number() {
        switch (below(6)) {
            case 0: return random.nextLong();
            case 1: return below(300);
            case 2: return below(12);
            default: return deed();
        }
    }

    private long deed() {
        int l = below(2);
        int p = below(4);
        int f = below(8);
        long[] deeds = {l * 100 + f, 1000 + l * 100 + f, 2000 + l, 3000 + p, 4000 + p * 10 + l, 5000 + p * 100 + f};
        return deeds[below(6)];
    }

    private void fillTray() throws ReflectiveOperationException {
        int tray = below(4);
        int n = 1 + below(10);
        call("numbers", tray, 1 + below(3), n);
        for (int i = 0; i < n; i++) call("write", tray, i, deed());
        for (int what = 0; what < 4; what++) call("judge", tray, what);
    }

    /** Stops that can be seen, of lights that may have been lit, now and then with one of them wrong. */
    private void watch() throws ReflectiveOperationException {
        int tray = below(4);
        int l = below(3);
        call("numbers", tray, 1 + below(3), 2 * (1 + below(5)));
        long places = call("lists", tray, l);
        if (places > 0) call("numbers", tray, 1 + below(3), Math.max(2, places - 2 * below(3)));
        call("lists", tray, l);
        if (below(3) == 0) call("write", tray, below(4), below(60));
        for (String name : List.of("seen", "sure", "look", "odd")) call(name, tray, l);
    }

    private void tellHouse(boolean isSpoilt) throws ReflectiveOperationException {
        String text = house();
        if (isSpoilt) {
            int at = below(text.length());
            String[] other = {"", " ", ";", "1", "99", "(", ")", "lit", "at", "#", "+", "house 3;", "\n", "\u00ff", "floor", "12345"};
            text = text.substring(0, at) + other[below(other.length)] + text.substring(at + below(Math.min(6, text.length() - at)));
        }
        byte[] bytes = text.getBytes(StandardCharsets.ISO_8859_1);
        for (int i = 0; i < bytes.length; i += 20) {
            long[] fives = new long[5];
            for (int j = 0; j < 20; j++) {
                int b = i + j < bytes.length ? bytes[i + j] & 255 : 32;
                fives[j / 4] = (int) fives[j / 4] << 8 | b;
            }
            call("feed", fives);
        }
        call("house", text.length());
        call("fault", 0);
        call("fault", 1);
    }

    private String house() {
        StringBuilder text = new StringBuilder();
        int floors = below(3) == 0 ? 12 : 2 + below(8);
        text.append("house ").append(floors).append(";");
        int lifts = below(4);
        if (lifts == 0) lifts = below(2);
        int same = below(floors);
        for (int l = 0; l < lifts; l++) lift(text, floors, below(3) == 0 ? same : below(floors));
        int people = below(6);
        if (lifts > 0 && people == 0) people = 1;
        for (int p = 0; p < people; p++) person(text, floors, lifts);
        for (int i = below(3); i > 0; i--) text.append("calls ").append(below(floors)).append(" times ").append(below(100)).append(";");
        if (below(2) == 0) text.append("foot : ").append(sum(new String[] {"up", "load", "age", "floor", "5"}, 0)).append(";");
        if (below(2) == 0) text.append("stop : ").append(sum(new String[] {"floor", "lit", "lift", "2"}, 0)).append(";");
        return text.length() <= 700 ? text.toString() : text.substring(0, 700);
    }

    private void lift(StringBuilder text, int floors, int at) {
        text.append("lift at ").append(at);
        if (below(2) == 0) text.append(" speed ").append(1 + below(below(2) == 0 ? 6 : 60));
        if (below(2) == 0) text.append(" stops ").append(below(12));
        StringBuilder lit = new StringBuilder();
        for (int i = below(8); i > 0; i--) {
            int f = below(floors);
            if (f != at) lit.append(" ").append(f);
        }
        if (lit.length() > 0) text.append(" lit").append(lit);
        if (below(3) == 0) text.append(" down");
        text.append(";");
    }

    private void person(StringBuilder text, int floors, int lifts) {
        text.append("person home ").append(below(floors));
        if (below(3) == 0) text.append(" at ").append(below(floors));
        if (lifts > 0 && below(3) > 0) text.append(" in ").append(below(lifts));
        if (below(3) == 0) text.append(" worth ").append(1 + below(9));
        if (below(3) == 0) text.append(" load ").append(below(30));
        if (below(3) == 0) text.append(" age ").append(below(100));
        text.append(";");
    }

    private String sum(String[] words, int depth) {
        StringBuilder text = new StringBuilder();
        int atoms = 1 + below(4);
        for (int i = 0; i < atoms; i++) {
            if (i > 0) text.append(new String[] {"+", " - ", "*", "+ "}[below(4)]);
            if (depth < 3 && below(6) == 0) text.append("(").append(sum(words, depth + 1)).append(")");
            else if (below(3) == 0) text.append(below(below(5) == 0 ? 1000 : 20));
            else text.append(words[below(words.length)]);
        }
        return text.toString();
    }
}
