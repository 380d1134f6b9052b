import java.util.Arrays;

/** Objects to start a test from, and all that can be asked of one. */
final class Papers {
    /** Numbers that are below every row and every set. */
    static final int[] TOO_SMALL = {-1, -32, Integer.MIN_VALUE, Integer.MIN_VALUE + 32};

    private Papers() {
    }

    /** The numbers that are too large where a bound is the first of them; some that wrap around to small ones. */
    static int[] tooLarge(int bound) {
        return new int[] {bound, bound + 1, Math.max(bound, 32), Math.max(bound, 256), 1 << 16, 1 << 30, Integer.MAX_VALUE};
    }

    /** Too small and too large ones. */
    static int[] outside(int bound) {
        int[] large = tooLarge(bound);
        int[] all = Arrays.copyOf(TOO_SMALL, TOO_SMALL.length + large.length);
        System.arraycopy(large, 0, all, TOO_SMALL.length, large.length);
        return all;
    }

    /** Two THINGS, three VERSIONS, a HOLD, a RULE, a BACKUP (of STORE 0), bytes on the tape: what a call could spoil. */
    static PapersHeld small() {
        PapersHeld x = new PapersHeld();
        x.thing(1, 2);
        x.thing(0, 3);
        x.version(0, 5, 0);
        x.version(1, 2, 1);
        x.version(0, 1, 2);
        x.rule(1, 3);
        Checks.hold(x, "w2", 0);
        x.backup(0);
        Checks.tape(x, "w1|w0");
        return x;
    }

    /** A THING of KIND 0 and OWNER 0 with VERSIONS that have these WORDS, all in STORE 0. */
    static PapersHeld withWords(int... words) {
        PapersHeld x = new PapersHeld();
        x.thing(0, 0);
        for (int set : words) {
            x.version(0, set, 0);
        }
        return x;
    }

    /** Days end until the clock's is this one; some steps more than are needed if days end as they should. */
    static void toDay(PapersHeld x, int day) {
        for (int step = 0; step < 60 && x.about(2) < day; step++) {
            x.days(Math.min(100, day - x.about(2)));
        }
    }

    /** What all questions answer; for small objects, as an object is used for at most 512 calls. */
    static String answers(PapersHeld x) {
        StringBuilder all = new StringBuilder();
        for (int what = 0; what <= 10; what++) {
            all.append(x.about(what)).append(' ');
        }
        for (int t = 0; t < x.about(0); t++) {
            all.append("t ").append(x.about(20 + t)).append(' ').append(x.about(60 + t)).append(' ');
        }
        for (int v = 0; v < x.about(1); v++) {
            all.append("v ");
            for (int what = 1; what <= 7; what++) {
                all.append(x.versionOf(v, what)).append(' ');
            }
        }
        for (int h = 0; h < x.about(3); h++) {
            all.append("h ").append(x.fits(h)).append(' ');
        }
        return all.append("c ").append(x.chain()).append(" f ").append(x.fault(0)).append(' ').append(x.fault(1)).toString();
    }
}
