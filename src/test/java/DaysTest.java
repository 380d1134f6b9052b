/** Promises 17 to 21 and 24 to 26: rules, wishes, days that end, what would go, records, the chain, about. */
public final class DaysTest {
    private static final Checks CHECKS = new Checks("DaysTest");

    public static void main(String[] args) {
        promise17Rule();
        promise17LongestRule();
        promise18Forget();
        promise18OwnerAtHand();
        promise19Days();
        promise19WhatGoes();
        promise19BrokenStores();
        promise20VersionOf();
        promise20GoneVersions();
        promise20LeastDay();
        promise20LastDay();
        promise21Would();
        promise21BrokenStores();
        promise24Record();
        promise24KeptRecords();
        promise25Chain();
        promise26About();
        promise26Open();
        CHECKS.finish();
    }

    private static void promise17Rule() {
        PapersHeld x = new PapersHeld();
        CHECKS.due("rule(-1, 0)", -1, x.rule(-1, 0));
        CHECKS.due("rule(6, 0)", -1, x.rule(6, 0));
        CHECKS.due("rule(0, -1)", -1, x.rule(0, -1));
        CHECKS.due("rule(0, 4001)", -1, x.rule(0, 4001));
        CHECKS.due("no rules", 0, x.about(4));
        for (int r = 1; r <= 20; r++) {
            CHECKS.due("rule " + r, r, x.rule(r % 6, 4000));
        }
        CHECKS.due("the 21st", -1, x.rule(0, 0));
        CHECKS.due("rules", 20, x.about(4));
    }

    private static void promise17LongestRule() {
        PapersHeld x = new PapersHeld();
        x.thing(1, 0);
        x.thing(2, 0);
        x.days(5);
        x.version(0, 0, 0);
        x.version(1, 0, 0);
        x.rule(1, 3);
        CHECKS.due("its term", 8, x.versionOf(0, 5));
        CHECKS.due("no rule of its kind", -1, x.versionOf(1, 5));
        x.rule(1, 9);
        CHECKS.due("the most", 14, x.versionOf(0, 5));
        x.rule(1, 2);
        CHECKS.due("still the most", 14, x.versionOf(0, 5));
        x.rule(2, 0);
        CHECKS.due("of no days", 5, x.versionOf(1, 5));
        x.rule(1, 4000);
        CHECKS.due("far off", 4005, x.versionOf(0, 5));
    }

    private static void promise18Forget() {
        PapersHeld x = new PapersHeld();
        CHECKS.due("forget(-1)", false, x.forget(-1));
        CHECKS.due("forget(10)", false, x.forget(10));
        CHECKS.due("forget(32)", false, x.forget(32));
        CHECKS.due("forget(9)", true, x.forget(9));
        CHECKS.due("again", false, x.forget(9));
        CHECKS.due("forget(0)", true, x.forget(0));
        x.thing(0, 9);
        x.version(0, 0, 0);
        CHECKS.due("a thing that comes later", 1, x.versionOf(0, 6));
        CHECKS.due("goes", 1, x.days(1));
    }

    private static void promise18OwnerAtHand() {
        PapersHeld x = new PapersHeld();
        x.thing(0, 1);
        x.thing(0, 2);
        x.version(0, 0, 0);
        x.version(1, 0, 0);
        x.forget(1);
        CHECKS.due("its owner's wish", 1, x.versionOf(0, 6));
        CHECKS.due("another's", 0, x.versionOf(1, 6));
        x.gives(1, 3);
        CHECKS.due("an owner of once", 0, x.versionOf(0, 6));
        x.gives(2, 1);
        CHECKS.due("the owner of now", 1, x.versionOf(1, 6));
        CHECKS.due("one goes", 1, x.days(1));
        CHECKS.due("which", 1, x.record(0, 0));
        Checks.hold(x, "p3", 1);
        x.forget(3);
        CHECKS.due("the wish waits", 0, x.days(5));
        x.ends(0, 6);
        CHECKS.due("till it is free", 1, x.days(1));
    }

    private static void promise19Days() {
        PapersHeld x = new PapersHeld();
        CHECKS.due("days(0)", -1, x.days(0));
        CHECKS.due("days(-1)", -1, x.days(-1));
        CHECKS.due("days(101)", -1, x.days(101));
        CHECKS.due("days(MAX)", -1, x.days(Integer.MAX_VALUE));
        CHECKS.due("the clock stands", 0, x.about(2));
        CHECKS.due("days(1)", 0, x.days(1));
        CHECKS.due("the clock", 1, x.about(2));
        for (int i = 0; i < 49; i++) {
            CHECKS.due("days(100)", 0, x.days(100));
        }
        CHECKS.due("beyond 5000", -1, x.days(100));
        CHECKS.due("the clock", 4901, x.about(2));
        CHECKS.due("to 5000", 0, x.days(99));
        CHECKS.due("the clock", 5000, x.about(2));
        CHECKS.due("no more", -1, x.days(1));
    }

    private static void promise19WhatGoes() {
        PapersHeld x = new PapersHeld();
        x.thing(0, 0);
        x.thing(1, 0);
        x.version(1, 1, 3);
        x.version(0, 1, 0);
        x.version(0, 2, 1);
        x.copy(2, 5);
        x.rule(0, 2);
        x.rule(1, 4);
        Checks.hold(x, "w1", 1);
        x.ends(0, 4);
        CHECKS.due("days 0 and 1", 0, x.days(2));
        CHECKS.due("day 2", 1, x.days(1));
        CHECKS.due("which", 1, x.record(0, 0));
        CHECKS.due("gone", 0, x.versionOf(1, 3));
        CHECKS.due("held", 34, x.versionOf(2, 3));
        CHECKS.due("days 3 to 5", 2, x.days(3));
        CHECKS.due("by rising numbers", 0, x.record(1, 0));
        CHECKS.due("on day 4", 4, x.record(1, 1));
        CHECKS.due("by rising numbers", 2, x.record(2, 0));
        CHECKS.due("on day 4", 4, x.record(2, 1));
        CHECKS.due("out of all stores", 34, x.record(2, 2));
        CHECKS.due("none is there", 0, x.about(6));
    }

    private static void promise19BrokenStores() {
        PapersHeld x = new PapersHeld();
        x.thing(0, 0);
        x.version(0, 0, 0);
        x.copy(0, 1);
        x.copy(0, 2);
        x.version(0, 0, 1);
        x.broken(1, true);
        x.forget(0);
        CHECKS.due("one goes in part", 1, x.days(3));
        CHECKS.due("out of the whole ones", 5, x.record(0, 2));
        CHECKS.due("a copy stays", 2, x.versionOf(0, 3));
        x.broken(1, false);
        CHECKS.due("then they go", 2, x.days(1));
        CHECKS.due("the rest of it", 2, x.record(1, 2));
        CHECKS.due("there", 0, x.about(6));
    }

    private static void promise20VersionOf() {
        PapersHeld x = new PapersHeld();
        x.thing(3, 7);
        x.days(2);
        x.version(0, 9, 4);
        x.rule(3, 5);
        Checks.hold(x, "w0", 2);
        Checks.hold(x, "w1", 2);
        Checks.hold(x, "w3", 2);
        Checks.hold(x, "w3", 3);
        x.ends(2, 4);
        int[] want = {0, 9, 2, 16, 5, 7, 0, -1};
        for (int what = 0; what < want.length; what++) {
            CHECKS.due("versionOf(0, " + what + ")", want[what], x.versionOf(0, what));
        }
        CHECKS.due("versionOf(0, 8)", -1, x.versionOf(0, 8));
        CHECKS.due("versionOf(0, -1)", -1, x.versionOf(0, -1));
        CHECKS.due("versionOf(1, 0)", -1, x.versionOf(1, 0));
        CHECKS.due("versionOf(-1, 0)", -1, x.versionOf(-1, 0));
        x.days(4);
        CHECKS.due("not due on day 6", 0, x.versionOf(0, 6));
        CHECKS.due("held by 0 and 3", 9, x.versionOf(0, 4));
        x.days(1);
        CHECKS.due("due on day 7", 1, x.versionOf(0, 6));
        x.days(1);
        CHECKS.due("due behind it", 1, x.versionOf(0, 6));
    }

    private static void promise20GoneVersions() {
        PapersHeld x = new PapersHeld();
        x.thing(3, 7);
        x.version(0, 9, 4);
        x.rule(3, 0);
        x.days(1);
        Checks.hold(x, "w0", 1);
        int[] want = {0, 9, 0, 0, 1, 0, 1, -1};
        for (int what = 0; what < want.length; what++) {
            CHECKS.due("gone: versionOf(0, " + what + ")", want[what], x.versionOf(0, what));
        }
        x.ends(0, 1);
        CHECKS.due("gone: the least day", -1, x.versionOf(0, 7));
    }

    private static void promise20LeastDay() {
        PapersHeld x = new PapersHeld();
        x.thing(0, 0);
        x.version(0, 1, 0);
        CHECKS.due("never", -1, x.versionOf(0, 7));
        x.rule(0, 10);
        CHECKS.due("at its term", 10, x.versionOf(0, 7));
        x.broken(0, true);
        CHECKS.due("as if stores were whole", 10, x.versionOf(0, 7));
        x.broken(0, false);
        Checks.hold(x, "w0", 11);
        CHECKS.due("a hold behind it", 10, x.versionOf(0, 7));
        Checks.hold(x, "w0", 5);
        CHECKS.due("the first without an end", -1, x.versionOf(0, 7));
        x.ends(1, 11);
        CHECKS.due("the other goes on", -1, x.versionOf(0, 7));
        x.ends(1, 10);
        CHECKS.due("ended right then", 10, x.versionOf(0, 7));
        x.ends(1, 11);
        x.ends(0, 20);
        CHECKS.due("one behind the other", 20, x.versionOf(0, 7));
        Checks.hold(x, "w0", 20);
        Checks.hold(x, "w0", 29);
        x.ends(2, 28);
        CHECKS.due("between two", 28, x.versionOf(0, 7));
        x.ends(2, 29);
        CHECKS.due("to the last one", -1, x.versionOf(0, 7));
        x.ends(3, 40);
        CHECKS.due("which ends", 40, x.versionOf(0, 7));
        x.forget(0);
        CHECKS.due("by a wish", 0, x.versionOf(0, 7));
        x.days(1);
        CHECKS.due("it went", -1, x.versionOf(0, 7));
    }

    private static void promise20LastDay() {
        PapersHeld x = new PapersHeld();
        x.thing(0, 0);
        x.thing(1, 1);
        for (int i = 0; i < 10; i++) {
            x.days(100);
        }
        x.version(0, 0, 0);
        x.version(1, 0, 0);
        x.rule(0, 4000);
        CHECKS.due("on the last day", 5000, x.versionOf(0, 7));
        CHECKS.due("would(5000, 0)", 1, x.would(5000, 0));
        CHECKS.due("would(4999, 0)", 0, x.would(4999, 0));
        x.days(1);
        x.version(0, 0, 0);
        CHECKS.due("its term is behind all days", 5001, x.versionOf(2, 5));
        CHECKS.due("never", -1, x.versionOf(2, 7));
        Checks.hold(x, "k0", 1001);
        x.ends(0, 5000);
        CHECKS.due("free on the last day", 5000, x.versionOf(0, 7));
        CHECKS.due("would(5000, 1)", 0, x.would(5000, 1));
    }

    private static void promise21Would() {
        PapersHeld x = new PapersHeld();
        x.thing(0, 0);
        x.thing(1, 1);
        x.version(0, 1, 0);
        x.version(0, 2, 0);
        x.version(1, 1, 0);
        x.version(1, 4, 0);
        x.days(2);
        x.rule(0, 4);
        CHECKS.due("would(1, 0)", -1, x.would(1, 0));
        CHECKS.due("would(5001, 0)", -1, x.would(5001, 0));
        CHECKS.due("would(3, 2)", -1, x.would(3, 2));
        CHECKS.due("would(3, -1)", -1, x.would(3, -1));
        CHECKS.due("would(3, 0)", 0, x.would(3, 0));
        CHECKS.due("would(4, 0)", 2, x.would(4, 0));
        CHECKS.due("would(5000, 0)", 2, x.would(5000, 0));
        Checks.hold(x, "w0", 3);
        CHECKS.due("holds aside", 2, x.would(5, 0));
        CHECKS.due("one for a hold", 1, x.would(5, 1));
        CHECKS.due("not due yet", 0, x.would(3, 1));
        x.ends(0, 6);
        CHECKS.due("not by day 5", 1, x.would(5, 1));
        CHECKS.due("but by day 6", 0, x.would(6, 1));
        x.forget(1);
        CHECKS.due("two by a wish", 2, x.would(2, 0));
        CHECKS.due("the hold comes too late", 0, x.would(2, 1));
        Checks.hold(x, "w2", 2);
        CHECKS.due("held now", 1, x.would(2, 1));
        x.days(1);
        CHECKS.due("of those that are there", 1, x.would(3, 0));
    }

    private static void promise21BrokenStores() {
        PapersHeld x = new PapersHeld();
        x.thing(0, 0);
        x.version(0, 1, 0);
        x.version(0, 2, 0);
        x.broken(0, true);
        x.forget(0);
        Checks.hold(x, "w0", 0);
        CHECKS.due("as if stores were whole", 2, x.would(0, 0));
        CHECKS.due("for a hold alone", 1, x.would(9, 1));
    }

    private static void promise24Record() {
        PapersHeld x = new PapersHeld();
        x.thing(0, 0);
        x.thing(0, 1);
        x.version(0, 0, 5);
        x.version(1, 0, 2);
        x.copy(1, 0);
        x.forget(1);
        x.days(4);
        x.forget(0);
        x.days(1);
        CHECKS.due("records", 2, x.about(5));
        CHECKS.due("record(0, 0)", 1, x.record(0, 0));
        CHECKS.due("record(0, 1)", 0, x.record(0, 1));
        CHECKS.due("record(0, 2)", 5, x.record(0, 2));
        CHECKS.due("record(1, 0)", 0, x.record(1, 0));
        CHECKS.due("record(1, 1)", 4, x.record(1, 1));
        CHECKS.due("record(1, 2)", 32, x.record(1, 2));
        CHECKS.due("record(1, 3)", -1, x.record(1, 3));
        CHECKS.due("record(1, -1)", -1, x.record(1, -1));
        CHECKS.due("record(2, 0)", -1, x.record(2, 0));
        CHECKS.due("record(-1, 0)", -1, x.record(-1, 0));
    }

    /** 120 VERSIONS that go and come back 51 times: 6,120 RECORDS in fewer than 512 calls. */
    private static void promise24KeptRecords() {
        PapersHeld x = new PapersHeld();
        x.thing(0, 0);
        for (int v = 0; v < 120; v++) {
            x.version(0, 0, 5);
        }
        x.backup(5);
        x.forget(0);
        int chain = 1;
        for (int day = 0; day < 51; day++) {
            CHECKS.due("day " + day, 120, x.days(1));
            for (int v = 0; v < 120; v++) {
                chain = 31 * chain + 10000 * v + 64 * day + 32;
            }
            CHECKS.due("restore behind day " + day, 120, x.restore(0));
        }
        CHECKS.due("all are counted", 6120, x.about(5));
        CHECKS.due("all are in the chain", chain, x.chain());
        CHECKS.due("the last that is kept", 119, x.record(5999, 0));
        CHECKS.due("its day", 49, x.record(5999, 1));
        CHECKS.due("its stores", 32, x.record(5999, 2));
        CHECKS.due("the first that isn't", -1, x.record(6000, 0));
        CHECKS.due("the last", -1, x.record(6119, 1));
    }

    private static void promise25Chain() {
        PapersHeld x = new PapersHeld();
        CHECKS.due("at first", 1, x.chain());
        x.thing(0, 0);
        x.version(0, 0, 0);
        x.version(0, 0, 1);
        x.copy(1, 5);
        x.days(3);
        CHECKS.due("days alone don't change it", 1, x.chain());
        x.forget(0);
        x.days(1);
        int first = 31 + 64 * 3 + 1;
        CHECKS.due("behind two", 31 * first + 10000 + 64 * 3 + 34, x.chain());
    }

    private static void promise26About() {
        PapersHeld x = new PapersHeld();
        x.thing(0, 4);
        x.thing(0, 5);
        x.gives(4, 6);
        x.version(0, 1, 0);
        x.version(1, 2, 1);
        x.version(1, 4, 1);
        Checks.hold(x, "w0|w2", 1);
        Checks.hold(x, "w1", 3);
        x.rule(0, 1);
        x.broken(3, true);
        x.days(2);
        x.feed(0, 0, 0, 0, 0);
        int[] want = {2, 3, 2, 2, 1, 1, 2, 0, 2, 20, 8};
        for (int what = 0; what < want.length; what++) {
            CHECKS.due("about(" + what + ")", want[what], x.about(what));
        }
        for (int what = 11; what < 20; what++) {
            CHECKS.due("about(" + what + ")", -1, x.about(what));
        }
        CHECKS.due("about(20)", 6, x.about(20));
        CHECKS.due("about(21)", 5, x.about(21));
        CHECKS.due("about(22)", -1, x.about(22));
        CHECKS.due("about(59)", -1, x.about(59));
        CHECKS.due("about(60)", 80, x.about(60));
        CHECKS.due("about(61)", 32, x.about(61));
        CHECKS.due("about(62)", -1, x.about(62));
        CHECKS.due("about(-1)", -1, x.about(-1));
        CHECKS.due("about(MIN)", -1, x.about(Integer.MIN_VALUE));
        CHECKS.due("about(MIN + 60)", -1, x.about(Integer.MIN_VALUE + 60));
        CHECKS.due("about(MAX)", -1, x.about(Integer.MAX_VALUE));
    }

    private static void promise26Open() {
        PapersHeld x = new PapersHeld();
        x.thing(0, 0);
        x.version(0, 1, 0);
        x.version(0, 2, 0);
        x.version(0, 4, 1);
        x.version(0, 8, 0);
        x.copy(3, 1);
        x.broken(0, true);
        CHECKS.due("none is due", 0, x.about(7));
        x.forget(0);
        CHECKS.due("those in broken stores alone", 2, x.about(7));
        Checks.hold(x, "w0", 0);
        CHECKS.due("not one that is held", 1, x.about(7));
        CHECKS.due("held", 1, x.about(8));
        x.days(1);
        CHECKS.due("one more has only a broken copy", 2, x.about(7));
        x.broken(0, false);
        CHECKS.due("whole again", 0, x.about(7));
        CHECKS.due("there", 3, x.about(6));
    }
}
