/** Compares answers with those that are due, and ends a test with exit code 1 if one was wrong. */
final class Due {
    private int compared = 0;
    private int comparedBefore = 0;
    private int wrong = 0;
    private int sentences = 0;
    private String sentence = "";

    /** Names the document's sentence that the answers from now on are about. */
    void sentence(String words) {
        endSentence();
        sentence = words;
        sentences++;
    }

    void is(String call, long got, long want) {
        compared++;
        if (got != want) {
            tellWrong(call + " answered " + got + ", due is " + want);
        }
    }

    void holds(String what, boolean holds) {
        compared++;
        if (!holds) {
            tellWrong("does not hold: " + what);
        }
    }

    void end() {
        endSentence();
        System.out.println(compared + " compared, " + wrong + " wrong"
                + (sentences == 0 ? "" : ", " + sentences + " sentences"));
        if (wrong != 0 || compared == 0) {
            System.exit(1);
        }
    }

    // A sentence without a comparison would look like one that holds.
    private void endSentence() {
        if (!sentence.isEmpty() && compared == comparedBefore) {
            tellWrong("nothing was compared");
        }
        comparedBefore = compared;
    }

    private void tellWrong(String what) {
        wrong++;
        System.out.println(sentence.isEmpty() ? what : what + "  [" + sentence + "]");
    }
}
