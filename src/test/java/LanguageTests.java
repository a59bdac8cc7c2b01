import java.io.IOException;
import java.lang.reflect.Constructor;
import java.lang.reflect.Field;
import java.lang.reflect.Method;
import java.lang.reflect.Modifier;
import java.nio.file.Files;
import java.nio.file.Path;
import java.util.Arrays;
import java.util.HashSet;
import java.util.List;
import java.util.Set;
import java.util.TreeSet;
import java.util.regex.Matcher;
import java.util.regex.Pattern;

/** What of ../shared/LANGUAGE.md can be told from the class and its source; the face is read from the document. */
public final class LanguageTests {
    private static final Path SOURCE = Path.of("src/main/java/AllPressed.java");
    private static final Path DOCUMENT = Path.of("../shared/DOC.md");

    public static void main(String[] args) throws IOException {
        face();
        classesInside();
        words();
        methodsStayShort();
        neverTooManyMade();
        Check.end();
    }

    private static void face() throws IOException {
        Set<String> want = new TreeSet<>();
        Matcher told = Pattern.compile("^    public (\\w+ )?(\\w+)\\(([^)]*)\\);$", Pattern.MULTILINE)
            .matcher(Files.readString(DOCUMENT));
        while (told.find()) {
            String types = told.group(3).replaceAll("(\\w+) \\w+", "$1").replace(" ", "");
            want.add((told.group(1) == null ? "" : told.group(1)) + told.group(2) + "(" + types + ")");
        }
        Set<String> got = new TreeSet<>();
        for (Method m : AllPressed.class.getDeclaredMethods()) {
            if (Modifier.isPrivate(m.getModifiers())) continue;
            got.add(m.getReturnType() + " " + m.getName() + "(" + typesOf(m.getParameterTypes()) + ")");
        }
        for (Constructor<?> c : AllPressed.class.getDeclaredConstructors()) {
            got.add("AllPressed(" + typesOf(c.getParameterTypes()) + ")");
        }
        Check.due("rule 1: the document's face is read", want.size(), 50);
        Check.holds("rule 1: " + got + " are " + want, got.equals(want));
        for (Field f : AllPressed.class.getDeclaredFields()) {
            Check.holds("rule 1: " + f, Modifier.isPrivate(f.getModifiers()) || f.getName().equals("NONE"));
        }
    }

    private static String typesOf(Class<?>[] types) {
        return String.join(",", Arrays.stream(types).map(Class::getName).toList());
    }

    private static void classesInside() {
        Set<String> faceNames = new HashSet<>();
        for (Method m : AllPressed.class.getMethods()) faceNames.add(m.getName());
        Class<?>[] inside = AllPressed.class.getDeclaredClasses();
        Check.holds("rule 11: some twelve classes", inside.length <= 12);
        checkClass(AllPressed.class);
        for (Class<?> c : inside) {
            Check.holds("rule 2: static " + c, Modifier.isStatic(c.getModifiers()));
            checkClass(c);
            for (Method m : c.getDeclaredMethods()) {
                Check.holds("rule 1: bears a public name: " + m, !faceNames.contains(m.getName()));
            }
        }
    }

    private static void checkClass(Class<?> c) {
        int fields = 0;
        for (Field f : c.getDeclaredFields()) {
            if (!Modifier.isStatic(f.getModifiers())) fields++;
            else Check.holds("rule 5: final " + f, Modifier.isFinal(f.getModifiers()));
        }
        Check.holds("rule 11: fields of " + c, fields <= 20);
        for (Method m : c.getDeclaredMethods()) {
            Check.holds("rule 11: parameters of " + m, m.getParameterCount() <= 7);
            Check.holds("rule 2: no lambda " + m, !m.isSynthetic());
        }
    }

    private static void words() throws IOException {
        String source = Files.readString(SOURCE);
        List<String> ruledOut = List.of("throw", "try", "catch", "synchronized", "assert", "package", "native", "finally",
            "Object", "Math.random", "System.out", "Exact", "double", "float", "->", "::", "import java.util.List",
            "hashCode", "toString");
        for (String word : ruledOut) Check.holds("rule 6: " + word, !source.contains(word));
        Check.holds("rule 3: signs", source.chars().allMatch(c -> c == 10 || c >= 32 && c < 127));
    }

    /** A method begins at a line of modifiers that ends with a brace, and ends at the brace below its first letter. */
    private static void methodsStayShort() throws IOException {
        List<String> lines = Files.readAllLines(SOURCE);
        int longest = 0;
        for (int i = 0; i < lines.size(); i++) {
            String line = lines.get(i);
            if (!line.matches(" {4,8}[\\w\\[\\]. ]+\\([^;]*\\) \\{")) continue;
            String end = " ".repeat(line.length() - line.stripLeading().length()) + "}";
            int length = 0;
            while (i + length < lines.size() && !lines.get(i + length).equals(end)) length++;
            longest = Math.max(longest, length + 1);
        }
        Check.holds("rule 11: the longest method has " + longest, longest > 5 && longest <= 60);
    }

    /** The room of one run: no call makes anything, so that only what the constructor makes counts. */
    private static void neverTooManyMade() throws IOException {
        boolean inConstructor = false;
        for (String line : Files.readAllLines(SOURCE)) {
            if (line.matches(" +(public )?[A-Z]\\w+\\(.*\\) \\{")) inConstructor = true;
            boolean isField = line.matches(" +(private )?(final )?[\\w\\[\\]]+ \\w+ = new .*;");
            if (line.contains("new ")) Check.holds("rule 12: " + line, isField || inConstructor || line.contains("**"));
            if (line.matches(" {4}( {4})?\\}")) inConstructor = false;
        }
    }
}
