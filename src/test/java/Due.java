/** Counts and prints the answers that are not as due; a test ends with it. */
final class Due {
    private final String test;
    private String sentence = "";
    private int wrong;

    Due(String test) {
        this.test = test;
    }

    /**
     * Begins the test of a sentence, quoted as it stands in the document. SentencesTest reads
     * these quotes: each must stand there, and no sentence that promises something may be left out.
     */
    void says(String quote) {
        sentence = quote;
    }

    void is(String call, long got, long want) {
        if (got != want) {
            wrong++;
            System.out.println(test + ", \"" + sentence + "\": " + call + " answered " + got + ", due is " + want);
        }
    }

    void yes(String call, boolean got) {
        is(call, got ? 1 : 0, 1);
    }

    void no(String call, boolean got) {
        is(call, got ? 1 : 0, 0);
    }

    void end() {
        if (wrong != 0) {
            System.out.println(test + ": " + wrong + " answers are not as due");
            System.exit(1);
        }
    }
}
