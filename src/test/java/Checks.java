/** Counts answers that are due, prints those that are not, and ends the test with 1 if there was one. */
final class Checks {
    private final String test;
    private int right;
    private int wrong;

    Checks(String test) {
        this.test = test;
    }

    void due(String call, long want, long got) {
        if (got == want) {
            right++;
        } else {
            wrong++;
            System.out.println(test + ": " + call + " answered " + got + ", due is " + want);
        }
    }

    void due(String call, boolean want, boolean got) {
        due(call, want ? 1 : 0, got ? 1 : 0);
    }

    int wrongSoFar() {
        return wrong;
    }

    int answersSoFar() {
        return right + wrong;
    }

    void finish() {
        System.out.println(test + ": " + right + " answers as due, " + wrong + " not");
        if (wrong != 0 || right == 0) {
            System.exit(1);
        }
    }

    /** Makes the tape that text alone; a text is cut into feeds of twenty bytes. */
    static void tape(PapersHeld x, String text) {
        x.end(0);
        for (int from = 0; from < text.length(); from += 20) {
            x.feed(four(text, from), four(text, from + 4), four(text, from + 8), four(text, from + 12),
                    four(text, from + 16));
        }
        x.end(text.length());
    }

    static int hold(PapersHeld x, String text, int from) {
        tape(x, text);
        return x.hold(from);
    }

    static int four(String text, int from) {
        int four = 0;
        for (int i = from; i < from + 4; i++) {
            four = four << 8 | (i < text.length() ? text.charAt(i) & 255 : 0);
        }
        return four;
    }
}
