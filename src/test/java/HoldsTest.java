/** Promises 10 to 16, 22 and 23: the tape, holds and their texts, faults, what fits. */
public final class HoldsTest {
    private static final Checks CHECKS = new Checks("HoldsTest");

    public static void main(String[] args) {
        promise10Feed();
        promise11End();
        promise12Hold();
        promise12MostHolds();
        promise12Texts();
        promise13Fault();
        promise13FaultsAndPlaces();
        promise13OpenSigns();
        promise13LatestText();
        promise14Ends();
        promise14EndsAgain();
        promise15Touch();
        promise16Change();
        promise22And23Fits();
        CHECKS.finish();
    }

    private static void promise10Feed() {
        PapersHeld x = new PapersHeld();
        CHECKS.due("feed", 20, x.feed(0, 0, 0, 0, 0));
        CHECKS.due("feed", 40, x.feed(-1, -1, -1, -1, -1));
        CHECKS.due("feed", 60, x.feed(0, 0, 0, 0, 0));
        CHECKS.due("more than 60", -1, x.feed(0, 0, 0, 0, 0));
        CHECKS.due("none came", 60, x.about(9));
        x.end(41);
        CHECKS.due("61 are too many", -1, x.feed(0, 0, 0, 0, 0));
        x.end(40);
        CHECKS.due("60 are not", 60, x.feed(0, 0, 0, 0, 0));
        bytesComeHighestFirst();
    }

    private static void bytesComeHighestFirst() {
        PapersHeld x = new PapersHeld();
        x.thing(0, 0);
        x.version(0, 1 << 12, 0);
        x.feed(Checks.four("w0&w", 0), Checks.four("1&w2", 0), Checks.four("&w3&", 0), Checks.four("w4&w", 0),
                Checks.four("5|w1", 0));
        CHECKS.due("behind the tape", 40, x.feed(Checks.four("2&!w", 0), Checks.four("1   ", 0), Checks.four("    ", 0),
                Checks.four("    ", 0), Checks.four("    ", 0)));
        CHECKS.due("w0&..&w5|w12&!w1", 0, x.hold(0));
        CHECKS.due("it fits", 1, x.fits(0));
    }

    private static void promise11End() {
        PapersHeld x = new PapersHeld();
        CHECKS.due("end(0) of none", 0, x.end(0));
        CHECKS.due("end(1) of none", -1, x.end(1));
        x.feed(0, 0, 0, 0, 0);
        CHECKS.due("end(21)", -1, x.end(21));
        CHECKS.due("end(-1)", -1, x.end(-1));
        CHECKS.due("nothing is done", 20, x.about(9));
        CHECKS.due("end(20)", 20, x.end(20));
        CHECKS.due("end(3)", 3, x.end(3));
        CHECKS.due("bytes", 3, x.about(9));
        CHECKS.due("end(4)", -1, x.end(4));
    }

    private static void promise12Hold() {
        PapersHeld x = new PapersHeld();
        x.thing(0, 0);
        x.version(0, 2, 0);
        x.days(10);
        Checks.tape(x, "w1");
        CHECKS.due("hold(9): the clock's is 10", -1, x.hold(9));
        CHECKS.due("hold(-1)", -1, x.hold(-1));
        CHECKS.due("hold(5001)", -1, x.hold(5001));
        CHECKS.due("the tape stays", 2, x.about(9));
        CHECKS.due("no text has been read", -1, x.fault(0));
        CHECKS.due("hold(10)", 0, x.hold(10));
        CHECKS.due("the tape is empty", 0, x.about(9));
        CHECKS.due("hold(5000)", 1, Checks.hold(x, "w1", 5000));
        CHECKS.due("hold(12)", 2, Checks.hold(x, "w1", 12));
        CHECKS.due("holds", 3, x.about(3));
        CHECKS.due("one lives", 1, x.versionOf(0, 4));
        x.days(2);
        CHECKS.due("two live", 5, x.versionOf(0, 4));
        CHECKS.due("a text with a fault", -1, Checks.hold(x, "w1)", 12));
        CHECKS.due("that empties the tape", 0, x.about(9));
        CHECKS.due("and makes no hold", 3, x.about(3));
    }

    private static void promise12MostHolds() {
        PapersHeld x = new PapersHeld();
        x.thing(0, 0);
        x.version(0, 2, 0);
        for (int h = 0; h < 12; h++) {
            CHECKS.due("hold " + h, h, Checks.hold(x, "w" + h, 0));
        }
        CHECKS.due("the 13th", -1, Checks.hold(x, "w1", 0));
        CHECKS.due("the tape stays", 2, x.about(9));
        CHECKS.due("holds", 12, x.about(3));
        Checks.tape(x, "k0");
        x.change(11);
        CHECKS.due("held by 1 and 11", 2050, x.versionOf(0, 4));
    }

    private static void promise12Texts() {
        textFits("w0", true);
        textFits("w1", false);
        textFits("w29", true);
        textFits("w00000029", true);
        textFits("p3", true);
        textFits("p4", true);
        textFits("p5", false);
        textFits("k2", true);
        textFits("k3", false);
        textFits("d7-7", true);
        textFits("d0-5000", true);
        textFits("d6-7", true);
        textFits("d7-8", true);
        textFits("d0-6", false);
        textFits("d8-5000", false);
        textFits("!w1", true);
        textFits("!!w1", false);
        textFits("w0&w1", false);
        textFits("w0|w1", true);
        textFits("w1|w0&w1", false);
        textFits("w0|w0&w1", true);
        textFits("w0&w1|w0", true);
        textFits("(w0|w0)&w1", false);
        textFits("w1&(w1|w0)", false);
        textFits("!w0|w0", true);
        textFits("!(w0|w0)", false);
        textFits("!w1&w0", true);
        textFits("!(w1&w0)", true);
        textFits("  ( k2 & ! p5 )  | w1 ", true);
        textFits("w1|w1|w1|w29", true);
        textFits("w0&w0&w0&w1", false);
        textFits("w0&w0&w0&w1|p3&k2&d7-7&w0", true);
        textFits("w1|(w1|(w1|(w1|(w1|(w1|(w1|(w1|(w1|(w1|(w1|(w0)))))))))))", true);
        textFits("w0&(w0&(w0&(w0&(w0&(w0&(w0&(w0&(w0&(w0&(w0&(w1)))))))))))", false);
        textFits("w1|w1|w1|w1|w1|w1|w1|w1|w1|w1|w1|w1|w1|w1|w1|w1|w1|w1|w1|w0", true);
    }

    /** Of words 0, 5, 29, owners 3 and 4, kind 2, day 7. */
    private static void textFits(String text, boolean want) {
        PapersHeld x = new PapersHeld();
        x.thing(2, 3);
        x.gives(3, 4);
        x.days(7);
        x.version(0, 1 | 1 << 5 | 1 << 29, 0);
        CHECKS.due("hold of " + text, 0, Checks.hold(x, text, 7));
        CHECKS.due("fits of " + text, want ? 1 : 0, x.fits(0));
        CHECKS.due("versionOf of " + text, want ? 1 : 0, x.versionOf(0, 4));
    }

    private static void promise13Fault() {
        PapersHeld x = new PapersHeld();
        CHECKS.due("ahead of any", -1, x.fault(0));
        CHECKS.due("ahead of any", -1, x.fault(1));
        Checks.hold(x, "w1", 0);
        CHECKS.due("without", 0, x.fault(0));
        CHECKS.due("without", -1, x.fault(1));
        Checks.hold(x, "w1|w30", 0);
        CHECKS.due("fault(0)", 2, x.fault(0));
        CHECKS.due("fault(1)", 3, x.fault(1));
        CHECKS.due("fault(2)", -1, x.fault(2));
        CHECKS.due("fault(-1)", -1, x.fault(-1));
    }

    private static void promise13FaultsAndPlaces() {
        faulty("", 1, 0);
        faulty("   ", 1, 3);
        faulty("w", 1, 0);
        faulty("  w", 1, 2);
        faulty("w 1", 1, 0);
        faulty("x", 1, 0);
        faulty("W1", 1, 0);
        faulty("1", 1, 0);
        faulty("\0", 1, 0);
        faulty("w1\0", 1, 2);
        faulty("w1\t", 1, 2);
        faulty("\u00ff", 1, 0);
        faulty("-", 1, 0);
        faulty("-5", 1, 0);
        faulty("d", 1, 0);
        faulty("d5", 1, 0);
        faulty("d5-", 1, 0);
        faulty("d-5", 1, 0);
        faulty("d5 -6", 1, 0);
        faulty("d5- 6", 1, 0);
        faulty("d9999", 1, 0);
        faulty("d9999-", 1, 0);
        faulty("d5-4", 2, 0);
        faulty("d0-5001", 2, 0);
        faulty("d5001-5001", 2, 0);
        faulty("d5001-9", 2, 0);
        faulty("w30", 2, 0);
        faulty("p10", 2, 0);
        faulty("k6", 2, 0);
        faulty("w4294967296", 2, 0);
        faulty("w99999999999999999999999999999999999999999999999999999999999", 2, 0);
        faulty("w1&w30", 2, 3);
        faulty("w1 w30", 1, 3);
        faulty("w1w2", 1, 2);
        faulty("w1!", 1, 2);
        faulty("w1 (w2)", 1, 3);
        faulty("w1)", 1, 2);
        faulty("(w1))", 1, 4);
        faulty("(w1", 1, 3);
        faulty("(w1  ", 1, 5);
        faulty("((w1)", 1, 5);
        faulty("()", 1, 1);
        faulty("&w1", 1, 0);
        faulty("w1&", 1, 3);
        faulty("w1&  ", 1, 5);
        faulty("w1&|w2", 1, 3);
        faulty("w1||w2", 1, 3);
        faulty("!", 1, 1);
        faulty("!&w1", 1, 1);
        faulty("!)", 1, 1);
        faulty("(w1&)", 1, 4);
        faulty("d1-2-3", 1, 4);
        faulty("w30 w", 2, 0);
        faulty("w1|(w2&p10)|w", 2, 7);
    }

    private static void promise13OpenSigns() {
        String twelve = "!(!(!(!(!(!(";
        faulty("!!!!!!!!!!!!!w1", 3, 12);
        faulty("(((((((((((((w1", 3, 12);
        faulty(twelve + "!w1", 3, 12);
        faulty(twelve + " (w99", 3, 13);
        faulty(twelve + "w1(", 1, 14);
        faulty(twelve + ")", 1, 12);
        faulty(twelve + "w1&!w2", 3, 15);
        faulty(twelve + "w1)&(!!w2", 3, 18);
        faulty("w1 & " + twelve + "w1", 1, 19);
        faulty("w1 & " + twelve + "w1))))))", 0, -1);
        faulty(twelve + "w1)&!w2)))))", 0, -1);
        faulty("!!!!!!!!!!!!w1&!!!!!!!!!!!!w2", 0, -1);
        faulty("!!!!!!!!!!!!w1&!!!!!!!!!!!!!w2", 3, 27);
        faulty("(!!!!!!!!!!!w1&!!!!!!!!!!!w2)|!!!!!!!!!!!!w3", 0, -1);
        faulty("(!!!!!!!!!!!w1&!!!!!!!!!!!!w2)", 3, 26);
    }

    private static void faulty(String text, int fault, int place) {
        PapersHeld x = new PapersHeld();
        CHECKS.due("hold of '" + text + "'", fault == 0 ? 0 : -1, Checks.hold(x, text, 0));
        CHECKS.due("fault of '" + text + "'", fault, x.fault(0));
        CHECKS.due("place of '" + text + "'", place, x.fault(1));
        CHECKS.due("the tape is empty", 0, x.about(9));
    }

    private static void promise13LatestText() {
        PapersHeld x = new PapersHeld();
        Checks.hold(x, "w1", 0);
        Checks.tape(x, "w1&");
        x.touch(0, 0);
        CHECKS.due("touch's text", 3, x.fault(1));
        Checks.tape(x, "w30");
        x.change(0);
        CHECKS.due("change's text", 2, x.fault(0));
        Checks.tape(x, "(");
        x.change(1);
        x.touch(0, 2);
        x.hold(5001);
        CHECKS.due("a tape that stays isn't read", 2, x.fault(0));
        x.hold(0);
        CHECKS.due("now it is", 1, x.fault(1));
    }

    private static void promise14Ends() {
        PapersHeld x = new PapersHeld();
        x.thing(0, 0);
        x.version(0, 2, 0);
        x.days(3);
        Checks.hold(x, "w1", 3);
        Checks.hold(x, "w1", 8);
        CHECKS.due("ends(-1, 9)", false, x.ends(-1, 9));
        CHECKS.due("ends(2, 9)", false, x.ends(2, 9));
        CHECKS.due("ahead of the clock's", false, x.ends(0, 2));
        CHECKS.due("ahead of its first", false, x.ends(1, 7));
        CHECKS.due("no day", false, x.ends(0, 5001));
        CHECKS.due("ends(0, 5)", true, x.ends(0, 5));
        CHECKS.due("at its first day", true, x.ends(1, 8));
        x.days(1);
        CHECKS.due("the day ahead of the end", 1, x.versionOf(0, 4));
        x.days(1);
        CHECKS.due("the day of the end", 0, x.versionOf(0, 4));
        CHECKS.due("it has ended", false, x.ends(0, 9));
        x.days(3);
        CHECKS.due("never lived", 0, x.versionOf(0, 4));
        CHECKS.due("it has ended too", false, x.ends(1, 9));
    }

    private static void promise14EndsAgain() {
        PapersHeld x = new PapersHeld();
        x.thing(0, 0);
        x.version(0, 2, 0);
        Checks.hold(x, "w1", 0);
        x.ends(0, 2);
        x.days(1);
        CHECKS.due("it hasn't ended", true, x.ends(0, 4));
        x.days(2);
        CHECKS.due("it lives on day 3", 1, x.versionOf(0, 4));
        CHECKS.due("at the clock's day", true, x.ends(0, 3));
        CHECKS.due("it lives no more", 0, x.versionOf(0, 4));
        CHECKS.due("it has ended", false, x.ends(0, 3));
    }

    private static void promise15Touch() {
        PapersHeld x = new PapersHeld();
        x.thing(0, 0);
        x.version(0, 1, 0);
        x.version(0, 3, 0);
        x.version(0, 2, 0);
        x.version(0, 6, 0);
        Checks.hold(x, "w0", 4);
        Checks.tape(x, "w1");
        CHECKS.due("touch(1, 0)", -1, x.touch(1, 0));
        CHECKS.due("touch(-1, 0)", -1, x.touch(-1, 0));
        CHECKS.due("touch(0, 2)", -1, x.touch(0, 2));
        CHECKS.due("touch(0, -1)", -1, x.touch(0, -1));
        CHECKS.due("the tape stays", 2, x.about(9));
        CHECKS.due("touch(0, 0)", 2, x.touch(0, 0));
        CHECKS.due("the tape is empty", 0, x.about(9));
        Checks.tape(x, "w1");
        CHECKS.due("touch(0, 1)", 1, x.touch(0, 1));
        CHECKS.due("the hold is as it was", 2, x.fits(0));
        Checks.tape(x, "w1|");
        CHECKS.due("a fault", -1, x.touch(0, 1));
        CHECKS.due("the tape is empty", 0, x.about(9));
        onlyWhatIsThereIsTouched(x);
    }

    private static void onlyWhatIsThereIsTouched(PapersHeld x) {
        Checks.hold(x, "w2", 0);
        x.rule(0, 0);
        x.days(1);
        Checks.tape(x, "w1");
        CHECKS.due("only what is there", 1, x.touch(0, 0));
        Checks.tape(x, "w1");
        CHECKS.due("only what is there", 0, x.touch(0, 1));
        x.ends(0, 4);
        x.days(3);
        Checks.tape(x, "w1");
        CHECKS.due("of one that has ended too", 1, x.touch(0, 0));
    }

    private static void promise16Change() {
        PapersHeld x = new PapersHeld();
        x.thing(0, 0);
        x.version(0, 1, 0);
        x.version(0, 2, 0);
        Checks.hold(x, "w0", 0);
        Checks.tape(x, "w1");
        CHECKS.due("change(1)", false, x.change(1));
        CHECKS.due("change(-1)", false, x.change(-1));
        CHECKS.due("the tape stays", 2, x.about(9));
        CHECKS.due("change(0)", true, x.change(0));
        CHECKS.due("the tape is empty", 0, x.about(9));
        CHECKS.due("version 0", 0, x.versionOf(0, 4));
        CHECKS.due("version 1", 1, x.versionOf(1, 4));
        Checks.tape(x, "w1(");
        CHECKS.due("a fault", false, x.change(0));
        CHECKS.due("the tape is empty", 0, x.about(9));
        CHECKS.due("as it was", 1, x.versionOf(1, 4));
        x.version(0, 2, 0);
        CHECKS.due("a new version too", 1, x.versionOf(2, 4));
        x.ends(0, 2);
        Checks.tape(x, "w0");
        CHECKS.due("with an end ahead", true, x.change(0));
        x.days(2);
        Checks.tape(x, "w1");
        CHECKS.due("it has ended", false, x.change(0));
        CHECKS.due("the tape stays", 2, x.about(9));
        CHECKS.due("its text too", 0, x.fit(0, 0));
    }

    private static void promise22And23Fits() {
        PapersHeld x = new PapersHeld();
        x.thing(1, 0);
        x.thing(2, 1);
        x.version(0, 0, 0);
        x.version(1, 0, 0);
        x.version(0, 0, 0);
        x.version(0, 0, 1);
        Checks.hold(x, "k1", 9);
        CHECKS.due("fits(-1)", -1, x.fits(-1));
        CHECKS.due("fits(1)", -1, x.fits(1));
        CHECKS.due("not living yet", 3, x.fits(0));
        CHECKS.due("fit(0, 0)", 0, x.fit(0, 0));
        CHECKS.due("fit(0, 1)", 2, x.fit(0, 1));
        CHECKS.due("fit(0, 2)", 3, x.fit(0, 2));
        CHECKS.due("fit(0, 3)", -1, x.fit(0, 3));
        CHECKS.due("fit(0, -1)", -1, x.fit(0, -1));
        CHECKS.due("fit(1, 0)", -1, x.fit(1, 0));
        CHECKS.due("fit(-1, 0)", -1, x.fit(-1, 0));
        x.broken(1, true);
        x.forget(0);
        x.days(1);
        CHECKS.due("those that are there", 1, x.fits(0));
        CHECKS.due("fit(0, 0)", 3, x.fit(0, 0));
        CHECKS.due("fit(0, 1)", -1, x.fit(0, 1));
    }
}
