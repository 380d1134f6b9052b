/** Sentences of promises 12, 14 to 16, 22 and 23, and of the terms, on HOLDS. */
final class SentencesOnHolds {
    private SentencesOnHolds() {
    }

    static void all(Sentences doc) {
        terms(doc);
        held(doc);
        making(doc);
        ending(doc);
        touching(doc);
        changing(doc);
        fitting(doc);
    }

    private static void terms(Sentences doc) {
        doc.test("Terms", "HOLDS 0 .. 11:", SentencesOnHolds::holds0To11);
        doc.test("Terms", "HOLDS 0 .. 11:", SentencesOnHolds::twelveHoldsOfAllVersions);
        doc.test("Terms", "a text of up to 60 bytes,", SentencesOnHolds::sixtyBytes);
        doc.test("Terms", "from a DAY (not ahead of the clock's)", SentencesOnHolds::fromTheClocksDayOn);
        doc.test("Terms", "to the day ahead of its END", SentencesOnHolds::toTheDayAheadOfItsEnd);
        doc.test("Terms", "(NONE: as long as none is told).", SentencesOnHolds::withoutAnEnd);
        doc.test("Terms", "It LIVES on the DAYS between.", SentencesOnHolds::livesBetween);
    }

    private static PapersHeld twelveHolds() {
        PapersHeld x = Papers.withWords(1, 2);
        for (int h = 0; h < 12; h++) {
            Checks.hold(x, "w" + h % 2, 0);
        }
        return x;
    }

    private static void holds0To11(Sentences s) {
        PapersHeld x = twelveHolds();
        s.due("holds", 12, x.about(3));
        s.due("those of word 0", 0x555, x.versionOf(0, 4));
        s.due("those of word 1", 0xaaa, x.versionOf(1, 4));
        s.due("ends(11, 0)", true, x.ends(11, 0));
        s.due("ends(0, 0)", true, x.ends(0, 0));
        s.due("those of word 0", 0x554, x.versionOf(0, 4));
        s.due("those of word 1", 0x2aa, x.versionOf(1, 4));
        s.due("fits(12)", -1, x.fits(12));
    }

    /** 120 VERSIONS in a BROKEN STORE, all DUE, with eleven HOLDS that FIT none and one that FITS all. */
    private static void twelveHoldsOfAllVersions(Sentences s) {
        PapersHeld x = new PapersHeld();
        x.thing(0, 0);
        for (int v = 0; v < 120; v++) {
            x.version(0, 1, 5);
        }
        for (int h = 0; h < 12; h++) {
            Checks.hold(x, h < 11 ? "w1" : "w0&!p1", 0);
        }
        x.broken(5, true);
        x.forget(0);
        s.due("fits", 120, x.fits(11));
        s.due("fit(11, 119)", 119, x.fit(11, 119));
        s.due("fit(11, 120)", -1, x.fit(11, 120));
        s.due("touched anew", 120, touch(x, "w0", 0, 0));
        s.due("touched no more", 120, touch(x, "w1", 11, 1));
        s.due("held", 120, x.about(8));
        s.due("would have gone", 120, x.would(5000, 0));
        s.due("will not go for holds", 120, x.would(5000, 1));
        s.due("given", 1, x.gives(0, 1));
        x.forget(1);
        s.due("held no more", 0, x.about(8));
        s.due("open", 120, x.about(7));
        s.due("will not go for holds", 0, x.would(5000, 1));
    }

    private static void sixtyBytes(Sentences s) {
        PapersHeld x = Papers.withWords(1, 1 << 20);
        s.due("sixty", 0, Checks.hold(x, "w1|".repeat(19) + "w20", 0));
        s.due("its last byte counts", 1, x.fit(0, 0));
        s.due("one alone", 1, x.fits(0));
        s.due("of 59", 1, Checks.hold(x, "w1|".repeat(19) + "w0", 0));
        s.due("its last byte counts", 0, x.fit(1, 0));
        Checks.tape(x, "w1|".repeat(19) + "w20");
        s.due("changed to sixty", true, x.change(1));
        s.due("its last byte counts", 1, x.fit(1, 0));
        Checks.tape(x, "w1|".repeat(19) + "w00");
        s.due("touched by sixty", 1, x.touch(1, 0));
    }

    private static void fromTheClocksDayOn(Sentences s) {
        PapersHeld x = Papers.withWords(1);
        x.days(10);
        s.due("ahead of the clock's", -1, Checks.hold(x, "w0", 9));
        s.due("the clock's", 0, Checks.hold(x, "w0", 10));
        s.due("behind it", 1, Checks.hold(x, "w0", 11));
        s.due("the first lives", 1, x.versionOf(0, 4));
        x.days(1);
        s.due("both live", 3, x.versionOf(0, 4));
    }

    private static void toTheDayAheadOfItsEnd(Sentences s) {
        PapersHeld x = Papers.withWords(1);
        Checks.hold(x, "w0", 0);
        x.ends(0, 2);
        s.due("day 0", 1, x.versionOf(0, 4));
        x.days(1);
        s.due("the day ahead of its end", 1, x.versionOf(0, 4));
        x.days(1);
        s.due("its end", 0, x.versionOf(0, 4));
        x.days(1);
        s.due("behind it", 0, x.versionOf(0, 4));
    }

    private static void withoutAnEnd(Sentences s) {
        PapersHeld x = Papers.withWords(1);
        x.forget(0);
        Checks.hold(x, "w0", 0);
        Papers.toDay(x, 5000);
        s.due("it lives on the last day", 1, x.versionOf(0, 4));
        s.due("nothing went", 0, x.about(5));
    }

    private static void livesBetween(Sentences s) {
        PapersHeld x = Papers.withWords(1);
        Checks.hold(x, "w0", 2);
        x.ends(0, 4);
        Checks.hold(x, "w0", 3);
        x.ends(1, 3);
        int[] want = {0, 0, 1, 1, 0, 0};
        for (int day = 0; day < want.length; day++) {
            s.due("on day " + day, want[day], x.versionOf(0, 4));
            x.days(1);
        }
    }

    private static void held(Sentences doc) {
        doc.test("Terms", "A VERSION is HELD on a DAY if a HOLD that LIVES then FITS it", SentencesOnHolds::heldByOne);
        doc.test("Terms", "(as THINGS, VERSIONS are then).", SentencesOnHolds::asThingsAreThen);
    }

    private static void heldByOne(Sentences s) {
        PapersHeld x = Papers.withWords(1, 2);
        x.forget(0);
        Checks.hold(x, "w0", 0);
        Checks.hold(x, "w1", 1);
        s.due("one lives and fits one", 1, x.about(8));
        s.due("the other goes", 1, x.days(1));
        s.due("which", 1, x.record(0, 0));
        s.due("it stays", 1, x.versionOf(0, 3));
        Checks.hold(x, "w0", 1);
        x.ends(0, 1);
        s.due("another one holds it", 0, x.days(1));
        x.ends(2, 2);
        s.due("none does", 1, x.days(1));
    }

    private static void asThingsAreThen(Sentences s) {
        PapersHeld x = Papers.withWords(0);
        Checks.hold(x, "p1", 0);
        Checks.hold(x, "!p2", 0);
        s.due("held by the second", 2, x.versionOf(0, 4));
        x.gives(0, 1);
        s.due("given: held by both", 3, x.versionOf(0, 4));
        x.gives(1, 2);
        s.due("given on: held by the first", 1, x.versionOf(0, 4));
        x.version(0, 0, 0);
        s.due("a version that comes later", 1, x.versionOf(1, 4));
        s.due("held", 2, x.about(8));
    }

    private static void making(Sentences doc) {
        doc.test("Promise 12", "The tape (empty then) is a HOLD from a DAY on: its number.", SentencesOnHolds::tapeIsAHold);
        doc.test("Promise 12", "NONE: it has a FAULT;", SentencesOnHolds::noHoldOfAFault);
        doc.test("Promise 12", "NONE: it has a FAULT;", SentencesOnHolds::nothingIsLeftOfAFault);
        doc.test("Promise 12", "or (the tape stays) another DAY,", SentencesOnHolds::noHoldFromOtherDays);
        doc.test("Promise 12", "or there are 12.", SentencesOnHolds::no13thHold);
    }

    private static void tapeIsAHold(Sentences s) {
        PapersHeld x = Papers.withWords(1, 2);
        s.due("from day 0", 0, Checks.hold(x, "w0", 0));
        s.due("the tape is empty", 0, x.about(9));
        s.due("from day 5000", 1, Checks.hold(x, "w1", 5000));
        s.due("the tape is empty", 0, x.about(9));
        s.due("the first fits", 0, x.fit(0, 0));
        s.due("the second fits", 1, x.fit(1, 0));
        Papers.toDay(x, 4999);
        s.due("it lives not yet", 0, x.versionOf(1, 4));
        x.days(1);
        s.due("it lives", 2, x.versionOf(1, 4));
        s.due("from the last day", 2, Checks.hold(x, "w1", 5000));
    }

    private static void noHoldOfAFault(Sentences s) {
        PapersHeld x = Papers.withWords(1);
        s.due("of no bytes", -1, x.hold(0));
        for (String text : new String[] {" ", "w", "w30", "w0)", "(w0", "!!!!!!!!!!!!!w0"}) {
            s.due("of '" + text + "'", -1, Checks.hold(x, text, 0));
            s.due("the tape is empty", 0, x.about(9));
            s.due("holds", 0, x.about(3));
        }
        s.due("held", 0, x.about(8));
        s.due("the next", 0, Checks.hold(x, "w0", 0));
        s.due("held", 1, x.about(8));
    }

    /** What a text opens and doesn't close is of no concern to the next one. */
    private static void nothingIsLeftOfAFault(Sentences s) {
        PapersHeld x = Papers.withWords(1);
        Checks.hold(x, "w1", 0);
        for (String text : new String[] {"!", "w0&", "w1|", "(", "!(w0", "w1&(!", "!!!!!!!!!!!!!", "((((((((((((("}) {
            s.due("of '" + text + "'", -1, Checks.hold(x, text, 0));
            s.due("the next, of w0: it fits", 1, touch(x, "w0", 0, 0));
            s.due("of '" + text + "'", -1, Checks.hold(x, text, 0));
            s.due("the next, of !w0: it doesn't", 0, touch(x, "!w0", 0, 0));
            s.due("of '" + text + "'", -1, Checks.hold(x, text, 0));
            s.due("the next, of twelve !: it fits", 1, touch(x, "!!!!!!!!!!!!w0", 0, 0));
        }
        s.due("of '('", -1, Checks.hold(x, "(", 0));
        s.due("the next, of a bracket that isn't open", -1, Checks.hold(x, "w0)", 0));
        s.due("its place", 2, x.fault(1));
    }

    private static void noHoldFromOtherDays(Sentences s) {
        PapersHeld x = Papers.small();
        x.days(1);
        String before = Papers.answers(x);
        s.due("hold(0) on day 1", -1, x.hold(0));
        for (int day : Papers.outside(5001)) {
            s.due("hold(" + day + ")", -1, x.hold(day));
        }
        s.unchanged("other days", before, x);
        s.due("the tape stays", 1, x.hold(1));
        s.due("w1|w0 fits", 3, x.fits(1));
        Checks.tape(x, "w");
        s.due("with a fault too", -1, x.hold(0));
        s.due("the tape stays", 1, x.about(9));
    }

    private static void no13thHold(Sentences s) {
        PapersHeld x = Papers.withWords(1, 2);
        for (int h = 0; h < 12; h++) {
            s.due("hold " + h, h, Checks.hold(x, "w0", 0));
        }
        Checks.tape(x, "w1");
        s.due("the 13th", -1, x.hold(0));
        s.due("the tape stays", 2, x.about(9));
        s.due("holds", 12, x.about(3));
        s.due("of word 0", 4095, x.versionOf(0, 4));
        s.due("of word 1", 0, x.versionOf(1, 4));
        x.ends(0, 0);
        s.due("one that has ended keeps its number", -1, x.hold(0));
        s.due("the tape can be used", true, x.change(11));
        s.due("of word 1", 2048, x.versionOf(1, 4));
        Checks.tape(x, "w");
        s.due("with a fault too", -1, x.hold(0));
        s.due("the tape stays", 1, x.about(9));
    }

    private static void ending(Sentences doc) {
        doc.test("Promise 14", "A HOLD's END: true.", SentencesOnHolds::itsEnd);
        doc.test("Promise 14", "False: no such HOLD,", SentencesOnHolds::noEndOfOtherHolds);
        doc.test("Promise 14", "a DAY ahead of the clock's", SentencesOnHolds::noEndAheadOfTheClock);
        doc.test("Promise 14", "or of its first one,", SentencesOnHolds::noEndAheadOfItsFirstDay);
        doc.test("Promise 14", "or it has ended.", SentencesOnHolds::noEndBehindItsEnd);
    }

    private static void itsEnd(Sentences s) {
        PapersHeld x = Papers.withWords(1);
        Checks.hold(x, "w0", 0);
        s.due("on the last day", true, x.ends(0, 5000));
        s.due("sooner", true, x.ends(0, 2));
        s.due("later", true, x.ends(0, 3));
        x.days(2);
        s.due("it lives", 1, x.versionOf(0, 4));
        s.due("on the clock's day", true, x.ends(0, 2));
        s.due("it lives no more", 0, x.versionOf(0, 4));
        s.due("not a day", false, endsBehindTheLastDay());
    }

    private static boolean endsBehindTheLastDay() {
        PapersHeld x = Papers.small();
        return x.ends(0, 5001) || x.ends(0, Integer.MAX_VALUE);
    }

    private static void noEndOfOtherHolds(Sentences s) {
        PapersHeld x = Papers.small();
        String before = Papers.answers(x);
        for (int hold : Papers.outside(1)) {
            s.due("ends(" + hold + ", 9)", false, x.ends(hold, 9));
        }
        s.unchanged("other holds", before, x);
        s.due("ends(0, 9) of none", false, new PapersHeld().ends(0, 9));
        s.due("ends(12, 9) of twelve", false, twelveHolds().ends(12, 9));
    }

    private static void noEndAheadOfTheClock(Sentences s) {
        PapersHeld x = Papers.small();
        x.days(5);
        String before = Papers.answers(x);
        s.due("the day ahead", false, x.ends(0, 4));
        s.due("its first day", false, x.ends(0, 0));
        for (int day : Papers.TOO_SMALL) {
            s.due("ends(0, " + day + ")", false, x.ends(0, day));
        }
        s.unchanged("ahead of the clock's", before, x);
        s.due("the clock's", true, x.ends(0, 5));
    }

    private static void noEndAheadOfItsFirstDay(Sentences s) {
        PapersHeld x = Papers.withWords(1);
        Checks.hold(x, "w0", 5);
        s.due("the day ahead", false, x.ends(0, 4));
        s.due("the clock's", false, x.ends(0, 0));
        x.forget(0);
        s.due("no end is told: it goes today", 0, x.versionOf(0, 7));
        s.due("its first day", true, x.ends(0, 5));
        x.days(5);
        s.due("it never lived", 0, x.versionOf(0, 4));
        s.due("it has ended", false, x.ends(0, 6));
    }

    private static void noEndBehindItsEnd(Sentences s) {
        PapersHeld x = Papers.withWords(1);
        Checks.hold(x, "w0", 0);
        x.ends(0, 3);
        x.days(2);
        s.due("the day ahead of its end", true, x.ends(0, 3));
        x.days(1);
        s.due("on its end, the same day", false, x.ends(0, 3));
        s.due("on its end, a later day", false, x.ends(0, 4));
        s.due("it lives no more", 0, x.versionOf(0, 4));
        x.days(1);
        s.due("behind its end", false, x.ends(0, 5000));
        s.due("it lives no more", 0, x.versionOf(0, 4));
    }

    private static void touching(Sentences doc) {
        doc.test("Promise 15", "The tape (empty then) would be a HOLD's text:", SentencesOnHolds::touchEmptiesTheTape);
        doc.test("Promise 15", "how many VERSIONS that are THERE it FITS and the one of now doesn't (what 0),",
                SentencesOnHolds::touchedAnew);
        doc.test("Promise 15", "the other way (1).", SentencesOnHolds::touchedNoMore);
        doc.test("Promise 15", "NONE: a FAULT,", SentencesOnHolds::noTouchOfAFault);
        doc.test("Promise 15", "or no such HOLD,", SentencesOnHolds::noTouchOfOtherHolds);
        doc.test("Promise 15", "others (the tape stays).", SentencesOnHolds::noTouchOfOthers);
        doc.test("Promise 15", "Nothing else is changed.", SentencesOnHolds::touchChangesNothingElse);
    }

    private static int touch(PapersHeld x, String text, int hold, int what) {
        Checks.tape(x, text);
        return x.touch(hold, what);
    }

    private static void touchEmptiesTheTape(Sentences s) {
        PapersHeld x = Papers.small();
        s.due("touch(0, 0)", 2, x.touch(0, 0));
        s.due("the tape is empty", 0, x.about(9));
        s.due("so it has a fault", -1, x.touch(0, 0));
        s.due("at its end", 0, x.fault(1));
    }

    private static void touchedAnew(Sentences s) {
        PapersHeld x = Papers.withWords(0, 1, 2, 3, 2);
        Checks.hold(x, "w0", 0);
        s.due("of others", 2, touch(x, "w1", 0, 0));
        s.due("of the same", 0, touch(x, "w0", 0, 0));
        s.due("of all", 3, touch(x, "w0|!w0", 0, 0));
        s.due("of none", 0, touch(x, "w0&!w0", 0, 0));
        Checks.hold(x, "!d0-0", 0);
        s.due("all, by one that fits none", 5, touch(x, "k0", 1, 0));
        x.forget(0);
        x.days(1);
        s.due("those that are there", 0, touch(x, "w1", 0, 0));
        s.due("those that are there", 2, touch(x, "k0", 1, 0));
    }

    private static void touchedNoMore(Sentences s) {
        PapersHeld x = Papers.withWords(0, 1, 2, 3, 1);
        Checks.hold(x, "w0", 0);
        s.due("of others", 2, touch(x, "w1", 0, 1));
        s.due("of the same", 0, touch(x, "w0", 0, 1));
        s.due("of all", 0, touch(x, "w0|!w0", 0, 1));
        s.due("of none", 3, touch(x, "w0&!w0", 0, 1));
        x.ends(0, 1);
        Checks.hold(x, "w1", 1);
        x.days(1);
        x.forget(0);
        x.days(1);
        s.due("those that are there, of one that has ended", 1, touch(x, "w2", 0, 1));
    }

    private static void noTouchOfAFault(Sentences s) {
        PapersHeld x = Papers.small();
        for (String text : new String[] {"", "w", "w30", "w0)", "!!!!!!!!!!!!!w0"}) {
            s.due("of '" + text + "', 0", -1, touch(x, text, 0, 0));
            s.due("the tape is empty", 0, x.about(9));
            s.due("of '" + text + "', 1", -1, touch(x, text, 0, 1));
        }
        s.due("the hold is as it was", 1, x.fits(0));
    }

    private static void noTouchOfOtherHolds(Sentences s) {
        PapersHeld x = Papers.small();
        String before = Papers.answers(x);
        for (int hold : Papers.outside(1)) {
            s.due("touch(" + hold + ", 0)", -1, x.touch(hold, 0));
            s.due("touch(" + hold + ", 1)", -1, x.touch(hold, 1));
        }
        s.unchanged("other holds", before, x);
        s.due("the tape stays", 2, x.touch(0, 0));
        PapersHeld full = twelveHolds();
        s.due("the 13th", -1, touch(full, "w0", 12, 0));
        s.due("the tape stays", 2, full.about(9));
        s.due("with a fault too", -1, touch(full, "w", 12, 0));
        s.due("the tape stays", 1, full.about(9));
        s.due("its fault isn't looked for", 0, full.fault(0));
    }

    private static void noTouchOfOthers(Sentences s) {
        PapersHeld x = Papers.small();
        String before = Papers.answers(x);
        for (int what : Papers.outside(2)) {
            s.due("touch(0, " + what + ")", -1, x.touch(0, what));
        }
        s.unchanged("others", before, x);
        s.due("the tape stays", 2, x.touch(0, 0));
        s.due("with a fault too", -1, touch(x, "w", 0, 2));
        s.due("the tape stays", 1, x.about(9));
        s.due("its fault isn't looked for", 0, x.fault(0));
    }

    private static void touchChangesNothingElse(Sentences s) {
        PapersHeld x = Papers.small();
        x.end(0);
        String before = Papers.answers(x);
        s.due("touch(0, 0)", 1, touch(x, "w1", 0, 0));
        s.due("touch(0, 1)", 1, touch(x, "w1", 0, 1));
        s.unchanged("touch", before, x);
        s.due("what the hold fits", 0, x.fit(0, 0));
        x.version(0, 4, 0);
        x.gives(2, 5);
        s.due("what it fits with another version", 2, x.fits(0));
    }

    private static void changing(Sentences doc) {
        doc.test("Promise 16", "The tape (empty then) is a HOLD's text from now on: true.", SentencesOnHolds::changeTheText);
        doc.test("Promise 16", "False: a FAULT,", SentencesOnHolds::noChangeToAFault);
        doc.test("Promise 16", "or no such HOLD,", SentencesOnHolds::noChangeOfOtherHolds);
        doc.test("Promise 16", "it has ended (the tape stays).", SentencesOnHolds::noChangeBehindItsEnd);
    }

    private static void changeTheText(Sentences s) {
        PapersHeld x = twelveHolds();
        Checks.tape(x, "w1");
        s.due("change(0)", true, x.change(0));
        s.due("the tape is empty", 0, x.about(9));
        Checks.tape(x, "w0");
        s.due("change(11)", true, x.change(11));
        s.due("of word 0", 0xd54, x.versionOf(0, 4));
        s.due("of word 1", 0x2ab, x.versionOf(1, 4));
        x.version(0, 2, 0);
        s.due("of a version that comes later", 0x2ab, x.versionOf(2, 4));
        Checks.tape(x, "w1");
        s.due("to the same", true, x.change(0));
        s.due("of word 1", 0x2ab, x.versionOf(1, 4));
    }

    private static void noChangeToAFault(Sentences s) {
        PapersHeld x = Papers.small();
        for (String text : new String[] {"", "w", "w1|w30", "w1)", "!!!!!!!!!!!!!w0"}) {
            Checks.tape(x, text);
            s.due("to '" + text + "'", false, x.change(0));
            s.due("the tape is empty", 0, x.about(9));
            s.due("the hold fits", 1, x.fits(0));
            s.due("what it fitted", 0, x.fit(0, 0));
        }
        x.version(0, 4, 0);
        s.due("a version that comes later fits", 2, x.fits(0));
    }

    private static void noChangeOfOtherHolds(Sentences s) {
        PapersHeld x = Papers.small();
        String before = Papers.answers(x);
        for (int hold : Papers.outside(1)) {
            s.due("change(" + hold + ")", false, x.change(hold));
        }
        s.unchanged("other holds", before, x);
        s.due("the tape stays", true, x.change(0));
        s.due("w1|w0 fits", 3, x.fits(0));
        PapersHeld full = twelveHolds();
        Checks.tape(full, "w0");
        s.due("the 13th", false, full.change(12));
        s.due("the tape stays", 2, full.about(9));
        Checks.tape(full, "w");
        s.due("with a fault too", false, full.change(12));
        s.due("the tape stays", 1, full.about(9));
        s.due("its fault isn't looked for", 0, full.fault(0));
    }

    private static void noChangeBehindItsEnd(Sentences s) {
        PapersHeld x = Papers.withWords(1, 2, 2);
        Checks.hold(x, "w0", 0);
        x.ends(0, 2);
        x.days(1);
        Checks.tape(x, "w1");
        s.due("the day ahead of its end", true, x.change(0));
        s.due("it fits", 2, x.fits(0));
        x.days(1);
        Checks.tape(x, "w0");
        s.due("on its end", false, x.change(0));
        s.due("the tape stays", 2, x.about(9));
        x.days(1);
        s.due("behind its end", false, x.change(0));
        s.due("the tape stays", 2, x.about(9));
        s.due("it fits", 2, x.fits(0));
        Checks.tape(x, "w");
        s.due("with a fault too", false, x.change(0));
        s.due("the tape stays", 1, x.about(9));
        x.end(0);
        s.due("no hold can end ahead of the clock", false, x.ends(0, 1));
    }

    private static void fitting(Sentences doc) {
        doc.test("Promise 22", "How many VERSIONS that are THERE a HOLD FITS", SentencesOnHolds::howManyItFits);
        doc.test("Promise 22", "(LIVING or not).", SentencesOnHolds::fitsLivingOrNot);
        doc.test("Promise 22", "NONE: there is none such.", SentencesOnHolds::noFitsOfOtherHolds);
        doc.test("Promise 23", "The i-th of these.", SentencesOnHolds::theIthOfThese);
        doc.test("Promise 23", "NONE if there is none such.", SentencesOnHolds::noOtherIth);
        doc.test("Promise 23", "NONE if there is none such.", SentencesOnHolds::noIthOfOtherHolds);
    }

    private static void howManyItFits(Sentences s) {
        PapersHeld x = new PapersHeld();
        x.thing(0, 0);
        Checks.hold(x, "k0", 0);
        s.due("none of none", 0, x.fits(0));
        for (int v = 0; v < 120; v++) {
            x.version(0, v, 0);
        }
        s.due("all", 120, x.fits(0));
        Checks.hold(x, "w0", 0);
        s.due("every other one", 60, x.fits(1));
        Checks.hold(x, "w7", 0);
        s.due("none", 0, x.fits(2));
        x.ends(0, 0);
        x.forget(0);
        x.days(1);
        s.due("those that are there", 60, x.fits(0));
    }

    private static void fitsLivingOrNot(Sentences s) {
        PapersHeld x = Papers.withWords(1, 2);
        Checks.hold(x, "w0", 2);
        x.ends(0, 3);
        for (int day = 0; day < 5; day++) {
            s.due("on day " + day, 1, x.fits(0));
            s.due("the first on day " + day, 0, x.fit(0, 0));
            x.days(1);
        }
    }

    private static void noFitsOfOtherHolds(Sentences s) {
        PapersHeld x = Papers.small();
        for (int hold : Papers.outside(1)) {
            s.due("fits(" + hold + ")", -1, x.fits(hold));
        }
        s.due("fits(0) of none", -1, new PapersHeld().fits(0));
        s.due("fits(12) of twelve", -1, twelveHolds().fits(12));
        s.due("fits(11) of twelve", 1, twelveHolds().fits(11));
    }

    private static void theIthOfThese(Sentences s) {
        PapersHeld x = Papers.withWords(2, 1, 2, 1, 1);
        Checks.hold(x, "w0", 0);
        s.due("fit(0, 0)", 1, x.fit(0, 0));
        s.due("fit(0, 1)", 3, x.fit(0, 1));
        s.due("fit(0, 2)", 4, x.fit(0, 2));
        x.move(1, 0, 1);
        x.broken(0, true);
        x.ends(0, 0);
        x.forget(0);
        x.days(1);
        s.due("behind one that has gone", 3, x.fit(0, 0));
        s.due("the last", 4, x.fit(0, 1));
    }

    private static void noOtherIth(Sentences s) {
        PapersHeld x = Papers.withWords(2, 1, 2, 1, 1);
        Checks.hold(x, "w0", 0);
        for (int i : Papers.outside(3)) {
            s.due("fit(0, " + i + ")", -1, x.fit(0, i));
        }
        Checks.hold(x, "w2", 0);
        s.due("fit(1, 0) where none fits", -1, x.fit(1, 0));
    }

    private static void noIthOfOtherHolds(Sentences s) {
        PapersHeld x = Papers.small();
        for (int hold : Papers.outside(1)) {
            s.due("fit(" + hold + ", 0)", -1, x.fit(hold, 0));
        }
        s.due("fit(0, 0) of none", -1, new PapersHeld().fit(0, 0));
        s.due("fit(12, 0) of twelve", -1, twelveHolds().fit(12, 0));
        s.due("fit(11, 0) of twelve", 1, twelveHolds().fit(11, 0));
    }
}
