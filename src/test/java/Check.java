import java.nio.charset.StandardCharsets;

/** What the tests share: telling a house as a text, and comparing answers with those that are due. */
final class Check {
    private static int wrong = 0;

    private Check() {}

    static void due(String what, long got, long want) {
        if (got == want) return;
        wrong++;
        System.out.println(what + " answered " + got + ", due is " + want);
    }

    static void holds(String what, boolean isSo) {
        due(what, isSo ? 1 : 0, 1);
    }

    /** Feeds the text, with blanks behind it to fill the last twenty bytes. */
    static void feed(AllPressed x, String text) {
        byte[] bytes = text.getBytes(StandardCharsets.ISO_8859_1);
        for (int i = 0; i < bytes.length; i += 20) {
            int[] fives = new int[5];
            for (int j = 0; j < 20; j++) {
                int b = i + j < bytes.length ? bytes[i + j] & 255 : 32;
                fives[j / 4] = fives[j / 4] << 8 | b;
            }
            x.feed(fives[0], fives[1], fives[2], fives[3], fives[4]);
        }
    }

    static int tell(AllPressed x, String text) {
        feed(x, text);
        return x.house(text.length());
    }

    static AllPressed with(String text) {
        AllPressed x = new AllPressed();
        int lines = tell(x, text);
        if (lines < 0) due("house(" + text + ") at " + x.fault(1), lines, 1);
        return x;
    }

    static void tray(AllPressed x, int tray, int sort, long... numbers) {
        x.numbers(tray, sort, numbers.length);
        for (int i = 0; i < numbers.length; i++) x.write(tray, i, numbers[i]);
    }

    static void end() {
        System.out.println(wrong == 0 ? "all answers are as due" : wrong + " answers are not as due");
        if (wrong != 0) System.exit(1);
    }
}
