import java.io.IOException;
import java.io.UncheckedIOException;
import java.nio.file.Files;
import java.nio.file.Path;
import java.util.BitSet;
import java.util.Map;
import java.util.TreeMap;
import java.util.regex.Matcher;
import java.util.regex.Pattern;

/** The document's own words: a test names those that it holds to, and none that tell a bound may be left over. */
final class Doc {
    /** The number of the part "Terms"; promises have their own numbers. */
    static final int TERMS = 0;
    /** The number of the part "What it is". */
    static final int WHAT_IT_IS = -1;

    private static final Pattern HEADING = Pattern.compile("## (?:Promise (\\d+): .*|Terms|What it is)");
    private static final Pattern BOUND = Pattern.compile("NONE|\\d+|at most|at least|lowest|like ones|eldest|nobody"
        + "|nothing|none\\b|never|nor\\b|not\\b|n't\\b|no such|empty|stays?\\b|MISSING|below|above|instead|alone|strikes?\\b|first|later?\\b"
        + "|latest|nearest|soonest|fewest|greatest|most even|least|more than|as far as|if it can|without");
    private static final Map<Integer, String> TEXTS = new TreeMap<>();
    private static final Map<Integer, BitSet> TESTED = new TreeMap<>();

    private static String sentence = "";
    private static int answers = 1;

    static {
        readParts();
    }

    private Doc() {}

    private static void readParts() {
        String document;
        try {
            document = Files.readString(Path.of("../shared/DOC.md"));
        } catch (IOException e) {
            throw new UncheckedIOException(e);
        }
        for (String part : document.split("(?m)^(?=## )")) {
            String[] parts = part.split("\n", 2);
            Matcher heading = HEADING.matcher(parts[0]);
            if (!heading.matches()) continue;
            int unnumbered = parts[0].equals("## Terms") ? TERMS : WHAT_IT_IS;
            int number = heading.group(1) == null ? unnumbered : Integer.parseInt(heading.group(1));
            String text = parts[1].replaceAll("```(text)?", " ").replaceAll("==== \\d+\\.", " ").replaceAll("\\s+", " ");
            // A promise begins with its call, as code; the Terms end with which calls stand under which heading.
            TEXTS.put(number, number <= TERMS ? text.replaceFirst("Ahead of the calls .*", "") : text.replaceFirst("`[^`]*`: ", ""));
            TESTED.put(number, new BitSet());
        }
    }

    /** What is due from here on holds to these words, which must stand in that part of the document. */
    static void says(int number, String words) {
        endSentence();
        sentence = number + " '" + words + "'";
        answers = 0;
        String text = TEXTS.getOrDefault(number, "");
        int at = text.indexOf(words);
        Check.holds("the document says " + sentence, at >= 0);
        if (at < 0) return;
        BitSet tested = TESTED.get(number);
        int untested = at;
        while (untested >= 0 && tested.get(untested)) untested = text.indexOf(words, untested + 1);
        int begin = untested >= 0 ? untested : at;
        tested.set(begin, begin + words.length());
    }

    static void due(String call, long got, long want) {
        answers++;
        Check.due(sentence + ": " + call, got, want);
    }

    static void same(String call, String got, String want) {
        answers++;
        Check.holds(sentence + ": " + call + "\n" + got + "\n" + want, got.equals(want));
    }

    /** The text is read without a fault, as so many lines. */
    static void reads(String text, int lines) {
        AllPressed x = new AllPressed();
        due("house " + text, Check.tell(x, text), lines);
        due("fault(0) " + text, x.fault(0), 0);
        due("fault(1) " + text, x.fault(1), -1);
    }

    static void faulty(String text, int kind, int place) {
        AllPressed x = new AllPressed();
        due("house " + text, Check.tell(x, text), -30 - kind);
        due("fault(0) " + text, x.fault(0), kind);
        due("fault(1) " + text, x.fault(1), place);
    }

    private static void endSentence() {
        Check.holds("there is no test of " + sentence, answers > 0);
    }

    /** Each word of these parts that tells a bound stands in a sentence that a test has named. */
    static void noneLeft(int first, int last) {
        endSentence();
        for (int number = first; number <= last; number++) {
            String text = TEXTS.getOrDefault(number, "");
            Check.holds("the document has part " + number, !text.isEmpty());
            Matcher bound = BOUND.matcher(text);
            while (bound.find()) {
                String around = text.substring(Math.max(0, bound.start() - 30), Math.min(text.length(), bound.end() + 30));
                Check.holds("part " + number + " has no test of '" + around + "'", TESTED.get(number).get(bound.start()));
            }
        }
    }
}
