/** Counts answers that are not as due, and ends the test with exit code 1 if there was one. */
final class Due {
    private final String test;
    private String sentence = "";
    private int sentences;
    private int answers;
    private int wrong;

    Due(String test) {
        this.test = test;
    }

    /** The words of the document that the answers from now on are looked at for. */
    void sentence(String words) {
        sentence = words;
        sentences++;
    }

    void is(String call, long got, long want) {
        answers++;
        if (got != want) {
            wrong++;
            System.out.println(where() + call + " answered " + got + ", due is " + want);
        }
    }

    void isTrue(String what, boolean holds) {
        answers++;
        if (!holds) {
            wrong++;
            System.out.println(where() + what + " does not hold");
        }
    }

    private String where() {
        return test + ": '" + sentence + "': ";
    }

    void end() {
        System.out.println(test + ": " + sentences + " sentences, " + answers + " answers, " + wrong + " not as due");
        if (wrong != 0) {
            System.exit(1);
        }
    }
}
