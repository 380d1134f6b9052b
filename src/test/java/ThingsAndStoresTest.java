/** Promises 1 to 9: a new object, things, versions, owners, copies, broken stores, backups. */
public final class ThingsAndStoresTest {
    private static final Checks CHECKS = new Checks("ThingsAndStoresTest");

    public static void main(String[] args) {
        promise1NewObject();
        promise2Thing();
        promise2MostThings();
        promise3Version();
        promise3MostVersions();
        promise4Gives();
        promise5Copy();
        promise6Move();
        promise7Broken();
        promise8Backup();
        promise9Restore();
        promise9RestoreBringsBackWhatWent();
        CHECKS.finish();
    }

    private static void promise1NewObject() {
        PapersHeld x = new PapersHeld();
        for (int what = 0; what <= 10; what++) {
            CHECKS.due("new: about(" + what + ")", 0, x.about(what));
        }
        CHECKS.due("new: chain()", 1, x.chain());
        CHECKS.due("new: fault(0)", -1, x.fault(0));
        CHECKS.due("new: fault(1)", -1, x.fault(1));
        CHECKS.due("new: versionOf(0, 0)", -1, x.versionOf(0, 0));
        CHECKS.due("new: fits(0)", -1, x.fits(0));
        CHECKS.due("new: record(0, 0)", -1, x.record(0, 0));
        CHECKS.due("new: restore(0)", -1, x.restore(0));
        CHECKS.due("new: about(20)", -1, x.about(20));
        CHECKS.due("new: about(60)", -1, x.about(60));
        CHECKS.due("new: would(5000, 0)", 0, x.would(5000, 0));
    }

    private static void promise2Thing() {
        PapersHeld x = new PapersHeld();
        CHECKS.due("thing(-1, 0)", -1, x.thing(-1, 0));
        CHECKS.due("thing(6, 0)", -1, x.thing(6, 0));
        CHECKS.due("thing(0, -1)", -1, x.thing(0, -1));
        CHECKS.due("thing(0, 10)", -1, x.thing(0, 10));
        CHECKS.due("thing(MIN, MAX)", -1, x.thing(Integer.MIN_VALUE, Integer.MAX_VALUE));
        CHECKS.due("thing(5, 9)", 0, x.thing(5, 9));
        CHECKS.due("thing(0, 0)", 1, x.thing(0, 0));
        CHECKS.due("things", 2, x.about(0));
        CHECKS.due("without versions", 0, x.about(1));
        CHECKS.due("owner of 0", 9, x.about(20));
        CHECKS.due("owners of 0", 512, x.about(60));
        CHECKS.due("owners of 1", 1, x.about(61));
    }

    private static void promise2MostThings() {
        PapersHeld x = new PapersHeld();
        for (int t = 0; t < 40; t++) {
            CHECKS.due("thing " + t, t, x.thing(t % 6, t % 10));
        }
        CHECKS.due("the 41st thing", -1, x.thing(0, 0));
        CHECKS.due("things", 40, x.about(0));
        CHECKS.due("about(59)", 9, x.about(59));
        CHECKS.due("about(99)", 512, x.about(99));
        CHECKS.due("about(100)", -1, x.about(100));
    }

    private static void promise3Version() {
        PapersHeld x = new PapersHeld();
        CHECKS.due("version of no thing", -1, x.version(0, 0, 0));
        x.thing(2, 3);
        CHECKS.due("version(-1, 0, 0)", -1, x.version(-1, 0, 0));
        CHECKS.due("version(1, 0, 0)", -1, x.version(1, 0, 0));
        CHECKS.due("version(0, 0, -1)", -1, x.version(0, 0, -1));
        CHECKS.due("version(0, 0, 6)", -1, x.version(0, 0, 6));
        CHECKS.due("word 30", -1, x.version(0, 1 << 30, 0));
        CHECKS.due("word 31", -1, x.version(0, 1 << 31, 0));
        CHECKS.due("words -1", -1, x.version(0, -1, 0));
        x.broken(4, true);
        CHECKS.due("into a broken store", -1, x.version(0, 0, 4));
        CHECKS.due("no version yet", 0, x.about(1));
        x.days(7);
        CHECKS.due("all words", 0, x.version(0, (1 << 30) - 1, 5));
        CHECKS.due("no words", 1, x.version(0, 0, 0));
        CHECKS.due("its thing", 0, x.versionOf(0, 0));
        CHECKS.due("its words", (1 << 30) - 1, x.versionOf(0, 1));
        CHECKS.due("its day", 7, x.versionOf(0, 2));
        CHECKS.due("its copies", 32, x.versionOf(0, 3));
        CHECKS.due("copies of 1", 1, x.versionOf(1, 3));
    }

    private static void promise3MostVersions() {
        PapersHeld x = new PapersHeld();
        x.thing(0, 0);
        for (int v = 0; v < 120; v++) {
            CHECKS.due("version " + v, v, x.version(0, v, v % 6));
        }
        CHECKS.due("the 121st version", -1, x.version(0, 0, 0));
        CHECKS.due("versions", 120, x.about(1));
    }

    private static void promise4Gives() {
        PapersHeld x = new PapersHeld();
        x.thing(0, 1);
        x.thing(0, 1);
        x.thing(0, 2);
        CHECKS.due("gives(-1, 0)", -1, x.gives(-1, 0));
        CHECKS.due("gives(0, -1)", -1, x.gives(0, -1));
        CHECKS.due("gives(10, 0)", -1, x.gives(10, 0));
        CHECKS.due("gives(0, 10)", -1, x.gives(0, 10));
        CHECKS.due("gives(1, 1)", -1, x.gives(1, 1));
        CHECKS.due("gives(5, 6)", 0, x.gives(5, 6));
        CHECKS.due("gives(1, 9)", 2, x.gives(1, 9));
        CHECKS.due("owner of 0", 9, x.about(20));
        CHECKS.due("owner of 1", 9, x.about(21));
        CHECKS.due("owner of 2", 2, x.about(22));
        CHECKS.due("owners of 0", 514, x.about(60));
        CHECKS.due("gives(9, 2)", 2, x.gives(9, 2));
        CHECKS.due("gives(2, 1)", 3, x.gives(2, 1));
        CHECKS.due("owners of 1", 518, x.about(61));
        CHECKS.due("owners of 2", 6, x.about(62));
        givenThingsFitTheirNewOwner();
    }

    private static void givenThingsFitTheirNewOwner() {
        PapersHeld x = new PapersHeld();
        x.thing(0, 1);
        x.version(0, 0, 0);
        Checks.hold(x, "p1", 0);
        Checks.hold(x, "p2", 0);
        CHECKS.due("held by p1", 1, x.versionOf(0, 4));
        x.gives(1, 2);
        CHECKS.due("held by both", 3, x.versionOf(0, 4));
        x.version(0, 0, 0);
        CHECKS.due("a new version held by both", 3, x.versionOf(1, 4));
    }

    private static void promise5Copy() {
        PapersHeld x = new PapersHeld();
        x.thing(0, 0);
        x.version(0, 0, 0);
        CHECKS.due("copy(-1, 1)", false, x.copy(-1, 1));
        CHECKS.due("copy(1, 1)", false, x.copy(1, 1));
        CHECKS.due("copy(0, -1)", false, x.copy(0, -1));
        CHECKS.due("copy(0, 6)", false, x.copy(0, 6));
        CHECKS.due("a store that has it", false, x.copy(0, 0));
        x.broken(2, true);
        CHECKS.due("a broken store", false, x.copy(0, 2));
        CHECKS.due("copy(0, 5)", true, x.copy(0, 5));
        CHECKS.due("copies", 33, x.versionOf(0, 3));
        x.broken(0, true);
        CHECKS.due("one of its stores is whole", true, x.copy(0, 1));
        x.broken(1, true);
        x.broken(5, true);
        CHECKS.due("only in broken stores", false, x.copy(0, 3));
        CHECKS.due("copies stay", 35, x.versionOf(0, 3));
        x.broken(1, false);
        x.broken(0, false);
        x.broken(5, false);
        x.forget(0);
        x.days(1);
        CHECKS.due("it has gone", false, x.copy(0, 3));
        CHECKS.due("it stays gone", 0, x.versionOf(0, 3));
    }

    private static void promise6Move() {
        PapersHeld x = new PapersHeld();
        x.thing(0, 0);
        x.version(0, 0, 0);
        CHECKS.due("move(-1, 0, 1)", false, x.move(-1, 0, 1));
        CHECKS.due("move(1, 0, 1)", false, x.move(1, 0, 1));
        CHECKS.due("move(0, -1, 1)", false, x.move(0, -1, 1));
        CHECKS.due("move(0, 6, 1)", false, x.move(0, 6, 1));
        CHECKS.due("move(0, 0, -1)", false, x.move(0, 0, -1));
        CHECKS.due("move(0, 0, 6)", false, x.move(0, 0, 6));
        CHECKS.due("the same", false, x.move(0, 0, 0));
        CHECKS.due("the first hasn't it", false, x.move(0, 1, 2));
        x.broken(1, true);
        CHECKS.due("into a broken store", false, x.move(0, 0, 1));
        x.broken(1, false);
        x.broken(0, true);
        CHECKS.due("out of a broken store", false, x.move(0, 0, 1));
        x.broken(0, false);
        CHECKS.due("nothing moved", 1, x.versionOf(0, 3));
        CHECKS.due("move(0, 0, 5)", true, x.move(0, 0, 5));
        CHECKS.due("moved", 32, x.versionOf(0, 3));
        x.copy(0, 1);
        CHECKS.due("to where it is", true, x.move(0, 5, 1));
        CHECKS.due("it goes out of the one alone", 2, x.versionOf(0, 3));
        x.copy(0, 4);
        CHECKS.due("with a third copy", true, x.move(0, 1, 0));
        CHECKS.due("which stays", 17, x.versionOf(0, 3));
    }

    private static void promise7Broken() {
        PapersHeld x = new PapersHeld();
        CHECKS.due("broken(-1, true)", false, x.broken(-1, true));
        CHECKS.due("broken(6, true)", false, x.broken(6, true));
        CHECKS.due("broken(32, false)", false, x.broken(32, false));
        CHECKS.due("none is broken", 0, x.about(10));
        CHECKS.due("broken(5, true)", true, x.broken(5, true));
        CHECKS.due("broken(0, true)", true, x.broken(0, true));
        CHECKS.due("again", true, x.broken(0, true));
        CHECKS.due("broken stores", 33, x.about(10));
        CHECKS.due("broken(5, false)", true, x.broken(5, false));
        CHECKS.due("again", true, x.broken(5, false));
        CHECKS.due("broken stores", 1, x.about(10));
    }

    private static void promise8Backup() {
        PapersHeld x = new PapersHeld();
        CHECKS.due("backup(-1)", -1, x.backup(-1));
        CHECKS.due("backup(6)", -1, x.backup(6));
        x.broken(3, true);
        CHECKS.due("of a broken store", -1, x.backup(3));
        for (int b = 0; b < 10; b++) {
            CHECKS.due("backup " + b, b, x.backup(b % 3));
        }
        CHECKS.due("the 11th", -1, x.backup(0));
    }

    private static void promise9Restore() {
        PapersHeld x = new PapersHeld();
        x.thing(0, 0);
        x.version(0, 0, 0);
        x.version(0, 0, 0);
        x.version(0, 0, 1);
        CHECKS.due("backup(0)", 0, x.backup(0));
        CHECKS.due("restore(-1)", -1, x.restore(-1));
        CHECKS.due("restore(1)", -1, x.restore(1));
        CHECKS.due("all there", 0, x.restore(0));
        x.version(0, 0, 0);
        x.move(0, 0, 2);
        x.move(1, 0, 2);
        x.move(3, 0, 2);
        x.broken(0, true);
        CHECKS.due("its store is broken", -1, x.restore(0));
        CHECKS.due("nothing came", 4, x.versionOf(0, 3));
        x.broken(0, false);
        x.copy(1, 0);
        CHECKS.due("one came", 1, x.restore(0));
        CHECKS.due("copies of 0", 5, x.versionOf(0, 3));
        CHECKS.due("copies of 1", 5, x.versionOf(1, 3));
        CHECKS.due("copies of 2", 2, x.versionOf(2, 3));
        CHECKS.due("made behind the backup", 4, x.versionOf(3, 3));
    }

    private static void promise9RestoreBringsBackWhatWent() {
        PapersHeld x = new PapersHeld();
        x.thing(0, 4);
        x.version(0, 0, 0);
        x.version(0, 0, 1);
        x.backup(0);
        x.backup(1);
        x.backup(1);
        x.backup(0);
        x.forget(4);
        CHECKS.due("both go", 2, x.days(1));
        CHECKS.due("there", 0, x.about(6));
        CHECKS.due("restore(1)", 1, x.restore(1));
        CHECKS.due("there", 1, x.about(6));
        CHECKS.due("it came back into 1", 2, x.versionOf(1, 3));
        CHECKS.due("its day stays", 0, x.versionOf(1, 2));
        CHECKS.due("it goes again", 1, x.days(1));
        CHECKS.due("restore(0)", 1, x.restore(0));
        CHECKS.due("it came back into 0", 1, x.versionOf(0, 3));
    }
}
