/** Counts and prints the answers that are not the ones that are due. */
final class Due {
    private String words = "";
    private int wrong = 0;
    private int asked = 0;

    /** Words of the document, which what is asked from here on is about. */
    void about(String quoted) {
        words = quoted;
    }

    void same(String what, long got, long want) {
        asked++;
        if (got != want) {
            wrong++;
            System.out.println((words.isEmpty() ? "" : "\"" + words + "\": ") + what + " answered " + got
                + ", due is " + want);
        }
    }

    void holds(String what, boolean isSo) {
        same(what, isSo ? 1 : 0, 1);
    }

    /** Ends the test: exit code 1 if one was wrong, or if nothing was asked. */
    void end() {
        System.out.println(asked + " asked, " + wrong + " wrong");
        if (wrong != 0 || asked == 0) {
            System.exit(1);
        }
    }
}
