/** Counts what is not as due, for the tests of this folder. */
final class Check {
    private final String name;
    private String sentence = "";
    private int checksBeforeSentence = -1;
    private int sentences = 0;
    private int wrong = 0;
    private int checks = 0;

    Check(String name) {
        this.name = name;
    }

    /** From here on the checks are for this sentence of the document. */
    void says(String where, String words) {
        endSentence();
        sentence = where + " \"" + words + "\": ";
        checksBeforeSentence = checks;
        sentences++;
    }

    void due(String what, long got, long want) {
        checks++;
        if (got != want) {
            wrong++;
            System.out.println(name + ": " + sentence + what + " answered " + got
                    + ", due is " + want);
        }
    }

    boolean isBroken() {
        return wrong > 0;
    }

    void finish() {
        endSentence();
        String of = sentences > 0 ? " of " + sentences + " sentences" : "";
        System.out.println(name + ": " + checks + " checks" + of + ", " + wrong + " not as due");
        if (wrong > 0 || checks == 0) {
            System.exit(1);
        }
    }

    // A sentence without a check would be told as held, and nobody looked.
    private void endSentence() {
        if (checks == checksBeforeSentence) {
            wrong++;
            System.out.println(name + ": " + sentence + "no check");
        }
    }
}
