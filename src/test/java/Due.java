/** Counts and prints the answers that are not as due. */
final class Due {
    private int wrong = 0;
    private int asked = 0;

    void is(String what, long got, long want) {
        asked++;
        if (got != want) {
            wrong++;
            System.out.println(what + " answered " + got + ", due is " + want);
        }
    }

    /** Rows of answers and what is due: got, want, got, want, .. */
    void are(String what, long... rows) {
        is(what + ": rows without what is due", rows.length % 2, 0);
        for (int i = 0; i + 1 < rows.length; i += 2) {
            is(what + " row " + (i / 2 + 1), rows[i], rows[i + 1]);
        }
    }

    void end() {
        System.out.println(wrong == 0 ? asked + " answers are as due" : wrong + " answers are not as due");
        if (wrong != 0) {
            System.exit(1);
        }
    }
}
