/**
 * All rows full, and every call with numbers at and beyond every edge: each answer beside that of the Model. Each number
 * has objects of its own, as an object is used for at most 512 calls, of which filling it takes half.
 */
public final class FullTest {
    private static final Checks CHECKS = new Checks("FullTest");
    private static final int[] NUMBERS = {Integer.MIN_VALUE, Integer.MIN_VALUE + 60, -32, -1, 0, 1, 2, 3, 4, 5, 6, 7, 8, 9, 10,
        11, 12, 13, 19, 20, 29, 30, 31, 32, 39, 40, 59, 60, 99, 100, 119, 120, 121, Integer.MAX_VALUE};
    private static final String LONGEST = "w1|w1|w1|w1|w1|w1|w1|w1|w1|w1|w1|w1|w1|w1|w1|w1|w1|w1|w1| w0";

    private final PapersHeld x = new PapersHeld();
    private final Model m = new Model();

    public static void main(String[] args) {
        for (int a : NUMBERS) {
            FullTest asked = new FullTest();
            asked.fill();
            asked.questions(a);
            FullTest changed = new FullTest();
            changed.fill();
            changed.changes(a);
            changed.questions(a);
            for (int b : NUMBERS) {
                FullTest pair = new FullTest();
                pair.fill();
                pair.changes(a, b);
            }
        }
        CHECKS.finish();
    }

    private void fill() {
        for (int t = 0; t < 41; t++) {
            CHECKS.due("thing", m.thing(t % 6, t % 10), x.thing(t % 6, t % 10));
        }
        for (int v = 0; v < 121; v++) {
            CHECKS.due("version", m.version(v % 40, v, v % 6), x.version(v % 40, v, v % 6));
        }
        for (int h = 0; h < 13; h++) {
            tape(h == 12 ? LONGEST : "w" + h % 7 + "|!k" + h % 6);
            CHECKS.due("hold", m.hold(h), x.hold(h));
            CHECKS.due("ends", m.ends(h, 2 * h), x.ends(h, 2 * h));
            CHECKS.due("backup", m.backup(h % 6), x.backup(h % 6));
        }
        for (int r = 0; r < 21; r++) {
            CHECKS.due("rule", m.rule(r % 5, r), x.rule(r % 5, r));
        }
        CHECKS.due("the tape is full", 60, x.about(9));
    }

    private void tape(String text) {
        Checks.tape(x, text);
        m.tape = text;
    }

    private void questions(int a) {
        CHECKS.due("chain()", m.chain(), x.chain());
        CHECKS.due("fault " + a, m.fault(a), x.fault(a));
        CHECKS.due("about " + a, m.about(a), x.about(a));
        CHECKS.due("fits " + a, m.fits(a), x.fits(a));
        for (int b : NUMBERS) {
            String of = " " + a + ", " + b;
            CHECKS.due("versionOf" + of, m.versionOf(a, b), x.versionOf(a, b));
            CHECKS.due("would" + of, m.would(a, b), x.would(a, b));
            CHECKS.due("fit" + of, m.fit(a, b), x.fit(a, b));
            CHECKS.due("record" + of, m.record(a, b), x.record(a, b));
        }
    }

    private void changes(int a) {
        CHECKS.due("backup " + a, m.backup(a), x.backup(a));
        CHECKS.due("end " + a, m.end(a), x.end(a));
        CHECKS.due("feed " + a, m.feed(a, a, a, a, a), x.feed(a, a, a, a, a));
        CHECKS.due("hold " + a, m.hold(a), x.hold(a));
        tape(LONGEST);
        CHECKS.due("change " + a, m.change(a), x.change(a));
        CHECKS.due("forget " + a, m.forget(a), x.forget(a));
        CHECKS.due("broken " + a, m.broken(a, true), x.broken(a, true));
        CHECKS.due("days " + a, m.days(a), x.days(a));
        CHECKS.due("days 100", m.days(100), x.days(100));
        CHECKS.due("broken " + a, m.broken(a, false), x.broken(a, false));
        CHECKS.due("restore " + a, m.restore(a), x.restore(a));
        CHECKS.due("restore 9", m.restore(9), x.restore(9));
    }

    private void changes(int a, int b) {
        String of = " " + a + ", " + b;
        CHECKS.due("touch" + of, m.touch(a, b), x.touch(a, b));
        CHECKS.due("thing" + of, m.thing(a, b), x.thing(a, b));
        CHECKS.due("version" + of, m.version(a, b, 0), x.version(a, b, 0));
        CHECKS.due("gives" + of, m.gives(a, b), x.gives(a, b));
        CHECKS.due("copy" + of, m.copy(a, b), x.copy(a, b));
        CHECKS.due("move" + of, m.move(a, b, 1), x.move(a, b, 1));
        CHECKS.due("ends" + of, m.ends(a, b), x.ends(a, b));
        CHECKS.due("rule" + of, m.rule(a, b), x.rule(a, b));
        CHECKS.due("days 9" + of, m.days(9), x.days(9));
        for (int what = 0; what <= 10; what++) {
            CHECKS.due("about " + what + of, m.about(what), x.about(what));
        }
        CHECKS.due("chain" + of, m.chain(), x.chain());
    }
}
