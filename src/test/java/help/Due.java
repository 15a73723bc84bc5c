/** Counts and prints answers that are not as due. */
final class Due {
    private static String sentence = "";
    private static int wrong;
    private static int asked;

    private Due() {
    }

    /** The sentence of the document that the answers from here on belong to. */
    static void under(String words) {
        sentence = words;
    }

    static void is(String call, int got, int want) {
        asked++;
        if (got != want) {
            wrong++;
            String where = sentence.isEmpty() ? "" : "'" + sentence + "': ";
            System.out.println(where + call + " answered " + got + ", due is " + want);
        }
    }

    static void holds(String what, boolean so) {
        is(what, so ? 1 : 0, 1);
    }

    /** Ends the program with exit code 1, if there was a wrong answer. */
    static void end() {
        System.out.println(wrong == 0 ? "all " + asked + " answers are as due"
                : wrong + " of " + asked + " answers are not as due");
        if (wrong != 0) {
            System.exit(1);
        }
    }
}
