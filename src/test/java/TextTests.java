import java.util.ArrayList;
import java.util.List;
import java.util.Random;

/** Random texts, whole and spoilt by tokens: the class and the model must read them alike. Seeds are fixed, or told as arguments. */
public final class TextTests {
    private static final String[] TOKENS = {
        "house", "lift", "at", "speed", "stops", "lit", "down", "person", "home", "in", "load", "age", "worth", "foot",
        "stop", "calls", "times", "up", "floor", "x", "liftat", ";", ":", "+", "-", "*", "(", ")", "0", "1", "2", "3", "7",
        "11", "12", "13", "60", "61", "99", "100", "999", "00", "000", "0000", "1000", "A", "\t", "\r", "\u0080", "\u0000"};
    private static final String[] OF_FOOT = {"up", "load", "age", "floor"};
    private static final String[] OF_STOP = {"floor", "lit", "lift"};

    private final Random random;
    private final List<String> tokens = new ArrayList<>();
    private int floors = 2;
    private int lifts = 0;

    private TextTests(long seed) {
        random = new Random(seed);
    }

    public static void main(String[] args) {
        int first = args.length > 0 ? Integer.parseInt(args[0]) : 1;
        int last = args.length > 1 ? Integer.parseInt(args[1]) : 20000;
        int[] kinds = new int[5];
        for (int seed = first; seed <= last; seed++) kinds[compare(new TextTests(seed).text())]++;
        for (int kind = 0; kind < kinds.length; kind++) {
            Check.holds("texts with fault " + kind + " of " + (last - first + 1), kinds[kind] > (last - first) / 50);
        }
        Check.end();
    }

    /** Answers the kind of the text's fault. */
    private static int compare(String text) {
        AllPressed x = new AllPressed();
        Model y = new Model();
        for (int i = 0; i < text.length(); i += 20) {
            int[] five = new int[5];
            for (int j = 0; j < 20; j++) five[j / 4] = five[j / 4] << 8 | (i + j < text.length() ? text.charAt(i + j) : 32);
            x.feed(five[0], five[1], five[2], five[3], five[4]);
            y.feed(five[0], five[1], five[2], five[3], five[4]);
        }
        String name = "house(" + text + ")";
        Check.due(name, x.house(text.length()), y.house(text.length()));
        for (int what = 0; what < 2; what++) Check.due(name + " fault(" + what + ")", x.fault(what), y.fault(what));
        for (int what = 0; what < 9; what++) Check.due(name + " count(" + what + ")", x.count(what), y.count(what));
        for (int f = 0; f < 12; f++) Check.due(name + " calls(" + f + ")", x.calls(f), y.calls(f));
        for (int p = 0; p < 8; p++) comparePerson(name, x, y, p);
        for (int l = 0; l < 3; l++) compareLift(name, x, y, l);
        return x.fault(0);
    }

    private static void comparePerson(String name, AllPressed x, Model y, int p) {
        for (int what = 0; what < 7; what++) Check.due(name + " person(" + p + ", " + what + ")", x.person(p, what), y.person(p, what));
        for (int f = 0; f < 12; f++) {
            for (int g = Math.max(f - 1, 0); g < f + 2; g++) {
                Check.due(name + " foot(" + p + ", " + f + ", " + g + ")", x.foot(p, f, g), y.foot(p, f, g));
            }
        }
    }

    private static void compareLift(String name, AllPressed x, Model y, int l) {
        for (int what = 0; what < 7; what++) Check.due(name + " lift(" + l + ", " + what + ")", x.lift(l, what), y.lift(l, what));
        for (int f = 0; f < 12; f++) {
            for (int lit = 1; lit < 12; lit++) {
                Check.due(name + " stop(" + l + ", " + f + ", " + lit + ")", x.stop(l, f, lit), y.stop(l, f, lit));
            }
        }
    }

    private int below(int n) {
        return random.nextInt(n);
    }

    private void put(Object... more) {
        for (Object token : more) tokens.add(token.toString());
    }

    private String text() {
        floors = 2 + below(11);
        put("house", floors, ";");
        for (int i = below(9); i > 0; i--) {
            line();
            put(";");
        }
        for (int i = below(3); i > 0; i--) spoil();
        String text = joined();
        return text.length() > 900 ? text.substring(0, 900) : text;
    }

    private void line() {
        switch (below(6)) {
            case 0: lift(); break;
            case 1: case 2: person(); break;
            case 3: put("foot", ":"); sum(OF_FOOT, 0); break;
            case 4: put("stop", ":"); sum(OF_STOP, 0); break;
            default: put("calls", below(floors), "times", below(101));
        }
    }

    private void lift() {
        int at = below(floors);
        put("lift", "at", at);
        lifts++;
        for (int i = below(4); i > 0; i--) {
            switch (below(4)) {
                case 0: put("speed", below(62)); break;
                case 1: put("stops", below(101)); break;
                case 2: put("down"); break;
                default:
                    put("lit");
                    for (int k = 1 + below(4); k > 0; k--) put((at + (below(20) == 0 ? 0 : 1 + below(floors - 1))) % floors);
            }
        }
    }

    private void person() {
        put("person", "home", below(floors));
        for (int i = below(4); i > 0; i--) {
            switch (below(5)) {
                case 0: put("at", below(floors)); break;
                case 1: put("in", below(Math.max(lifts, 1))); break;
                case 2: put("load", below(101)); break;
                case 3: put("age", below(101)); break;
                default: put("worth", below(101));
            }
        }
    }

    private void sum(String[] words, int opened) {
        for (int i = below(3); i >= 0; i--) {
            if (opened < 8 && below(3) == 0) {
                put("(");
                sum(words, opened + 1);
                put(")");
            } else if (below(2) == 0) put(below(1000));
            else put(words[below(words.length)]);
            if (i > 0) put("+-*".charAt(below(3)));
        }
    }

    private void spoil() {
        int at = below(tokens.size());
        String other = TOKENS[below(TOKENS.length)];
        switch (below(3)) {
            case 0: tokens.add(at, other); break;
            case 1: tokens.set(at, other); break;
            default: if (tokens.size() > 1) tokens.remove(at);
        }
    }

    private String joined() {
        StringBuilder text = new StringBuilder(below(5) == 0 ? " " : "");
        String before = ";";
        for (String token : tokens) {
            char last = before.charAt(before.length() - 1);
            char next = token.charAt(0);
            boolean wouldGrow = Character.isLetter(last) && Character.isLetter(next) || Character.isDigit(last) && Character.isDigit(next);
            if (wouldGrow ? below(60) > 0 : below(2) == 0) text.append(new String[] {" ", " ", "\n", "  "}[below(4)]);
            text.append(token);
            before = token;
        }
        return text.append(below(5) == 0 ? " \n" : "").toString();
    }
}
