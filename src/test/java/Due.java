/** Counts the answers that were looked at and prints each one that is not the one that is due. */
final class Due {
    private final String what;
    private String sentence = "";
    private int looked;
    private int wrong;

    Due(String what) {
        this.what = what;
    }

    /** What is looked at from now on is due by this sentence, which is printed with what is wrong. */
    void by(String sentence) {
        this.sentence = sentence.isEmpty() ? "" : "'" + sentence + "': ";
    }

    void is(String call, long got, long want) {
        looked++;
        if (got != want) {
            wrong++;
            System.out.println(what + ": " + sentence + call + " answered " + got + ", due is " + want);
        }
    }

    void is(String call, boolean got, boolean want) {
        is(call, got ? 1 : 0, want ? 1 : 0);
    }

    void yes(String call, boolean got) {
        is(call, got, true);
    }

    void no(String call, boolean got) {
        is(call, got, false);
    }

    boolean hasWrong() {
        return wrong > 0;
    }

    /** Ends the program with exit code 1 if an answer was wrong, or if none was looked at. */
    void close() {
        System.out.println(what + ": " + looked + " answers looked at, " + wrong + " wrong");
        if (wrong > 0 || looked == 0) {
            System.exit(1);
        }
    }
}
