/** What the tests share: they print each answer that is not due, and end with exit code 1 if there was one. */
final class Check {
    private static int answers = 0;
    private static int wrong = 0;
    private static String sentence = "";

    private Check() {
    }

    /** The sentence of the document that the checks from here on are about; it is printed with what is wrong. */
    static void says(String words) {
        sentence = "[" + words + "] ";
    }

    static void due(String call, int got, int want) {
        answers++;
        if (got != want) {
            wrong++;
            System.out.println(sentence + call + " answered " + got + ", due is " + want);
        }
    }

    /** Floats are compared by their bits, so that 0.0f and -0.0f differ and every NaN is the same. */
    static void dueFloat(String call, float got, float want) {
        answers++;
        if (Float.floatToIntBits(got) != Float.floatToIntBits(want)) {
            wrong++;
            System.out.println(sentence + call + " answered " + got + ", due is " + want);
        }
    }

    static void dueTrue(String what, boolean holds) {
        answers++;
        if (!holds) {
            wrong++;
            System.out.println(sentence + "does not hold: " + what);
        }
    }

    static int wrongSoFar() {
        return wrong;
    }

    static void end(String name) {
        System.out.println(name + ": " + answers + " answers, " + wrong + " not as due");
        if (wrong != 0) {
            System.exit(1);
        }
    }

    static void type(TenancyDeposits book, String text) {
        for (int i = 0; i < text.length(); i++) {
            book.type(text.charAt(i));
        }
    }

    /** Sets the text and reads it. */
    static int read(TenancyDeposits book, String text) {
        book.clearText();
        type(book, text);
        return book.readAnswers();
    }
}
