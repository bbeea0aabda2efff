/** Compares answers with those that are due, and ends a test with 1 if one was wrong. */
final class Due {
    private static int wrong = 0;
    private static int asked = 0;
    private static String by = "";

    private Due() {
    }

    /** The answers from here on are due by this sentence of the document. */
    static void by(String section, String sentence) {
        by = section + ", '" + sentence + "': ";
        isTrue("this sentence stands in the document", Doc.name(section, sentence));
    }

    static void is(String call, long got, long want) {
        asked++;
        if (got == want) return;
        wrong++;
        if (wrong <= 50) System.out.println(by + call + " answered " + got + ", due is " + want);
    }

    static void isTrue(String what, boolean holds) {
        is(what, holds ? 1 : 0, 1);
    }

    /** A refusal as a call tells it whose answer is a long. */
    static long refused(int answer) {
        return Long.MIN_VALUE - answer;
    }

    static void text(LongestMet x, String text) {
        for (int i = 0; i < text.length(); i++) x.type(text.charAt(i));
    }

    /** A line as a text tells it. */
    static int line(LongestMet x, int line, String text) {
        x.wipe();
        text(x, text);
        return x.line(line);
    }

    static void end() {
        System.out.println(asked + " answers, " + wrong + " not as due");
        if (wrong != 0) System.exit(1);
    }
}
