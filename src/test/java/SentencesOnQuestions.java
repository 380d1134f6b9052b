/** Sentences of promises 20, 21 and 26, and of the terms, on what is asked of VERSIONS, of days ahead and of the whole. */
final class SentencesOnQuestions {
    private SentencesOnQuestions() {
    }

    static void all(Sentences doc) {
        versionOf(doc);
        leastDay(doc);
        would(doc);
        about(doc);
    }

    private static void versionOf(Sentences doc) {
        doc.test("Promise 20", "Of a VERSION: 0 THING, 1 WORDS, 2 DAY, 3 COPIES,", SentencesOnQuestions::itsParts);
        doc.test("Promise 20", "4 HOLDS that LIVE on the clock's DAY and FIT (a set),", SentencesOnQuestions::holdsThatLiveAndFit);
        doc.test("Promise 20", "5 its TERM (NONE),", SentencesOnQuestions::termOrNone);
        doc.test("Promise 20", "6 whether it is DUE on the clock's DAY (1, 0),", SentencesOnQuestions::dueOrNot);
        doc.test("Promise 20", "NONE for others.", SentencesOnQuestions::noOtherVersions);
        doc.test("Promise 20", "NONE for others.", SentencesOnQuestions::noOtherPartsOfVersions);
    }

    private static void itsParts(Sentences s) {
        PapersHeld x = new PapersHeld();
        x.thing(0, 0);
        x.thing(0, 1);
        x.version(0, 0, 0);
        Papers.toDay(x, 5000);
        x.version(1, (1 << 30) - 1, 5);
        int[] first = {0, 0, 0, 1};
        int[] second = {1, (1 << 30) - 1, 5000, 32};
        for (int what = 0; what < 4; what++) {
            s.due("versionOf(0, " + what + ")", first[what], x.versionOf(0, what));
            s.due("versionOf(1, " + what + ")", second[what], x.versionOf(1, what));
        }
    }

    private static void holdsThatLiveAndFit(Sentences s) {
        PapersHeld x = Papers.withWords(1);
        s.due("without holds", 0, x.versionOf(0, 4));
        for (int h = 0; h < 12; h++) {
            Checks.hold(x, "w0", 0);
        }
        s.due("all twelve", 4095, x.versionOf(0, 4));
        for (int h = 0; h < 12; h++) {
            x.ends(h, h + 1);
        }
        for (int day = 0; day <= 12; day++) {
            s.due("on day " + day, 4095 >> day << day, x.versionOf(0, 4));
            x.days(1);
        }
        s.due("one that has gone", 4, goneButHeld().versionOf(0, 4));
    }

    /** HOLDS 0 has another WORD, 1 does not LIVE yet, 2 LIVES and FITS a VERSION that went ahead of it. */
    private static PapersHeld goneButHeld() {
        PapersHeld x = Papers.withWords(1);
        x.rule(0, 0);
        x.days(1);
        Checks.hold(x, "w1", 1);
        Checks.hold(x, "w0", 2);
        Checks.hold(x, "w0", 1);
        return x;
    }

    private static void termOrNone(Sentences s) {
        PapersHeld x = Papers.withWords(0);
        s.due("without rules", -1, x.versionOf(0, 5));
        x.rule(0, 0);
        s.due("of no days", 0, x.versionOf(0, 5));
        Papers.toDay(x, 5000);
        s.due("of one that has gone", 0, x.versionOf(0, 5));
        x.version(0, 0, 0);
        x.rule(0, 4000);
        s.due("behind the last day", 9000, x.versionOf(1, 5));
    }

    private static void dueOrNot(Sentences s) {
        PapersHeld x = Papers.withWords(0);
        x.rule(0, 1);
        s.due("the day ahead", 0, x.versionOf(0, 6));
        x.days(1);
        s.due("its day", 1, x.versionOf(0, 6));
        x.days(1);
        s.due("it has gone, and is due", 1, x.versionOf(0, 6));
        x.version(0, 0, 0);
        s.due("another is not", 0, x.versionOf(1, 6));
        Checks.hold(x, "k0", 2);
        x.forget(0);
        s.due("by a wish, though it is held", 1, x.versionOf(1, 6));
    }

    private static void noOtherVersions(Sentences s) {
        PapersHeld x = Papers.small();
        for (int version : Papers.outside(3)) {
            for (int what = 0; what < 8; what++) {
                s.due("versionOf(" + version + ", " + what + ")", -1, x.versionOf(version, what));
            }
        }
        s.due("the last", 1, x.versionOf(2, 1));
    }

    private static void noOtherPartsOfVersions(Sentences s) {
        PapersHeld x = Papers.small();
        for (int what : Papers.outside(8)) {
            s.due("versionOf(0, " + what + ")", -1, x.versionOf(0, what));
        }
    }

    private static void leastDay(Sentences doc) {
        doc.test("Promise 20", "7 the least DAY from the clock's on at whose end it would go,", SentencesOnQuestions::leastDayFromTheClocks);
        doc.test("Promise 20", "7 the least DAY from the clock's on at whose end it would go,", SentencesOnQuestions::leastDayBetweenHolds);
        doc.test("Promise 20", "7 the least DAY from the clock's on at whose end it would go,", SentencesOnQuestions::leastDayIsTheLast);
        doc.test("Promise 20", "if nothing but DAYS changed and all STORES were whole", SentencesOnQuestions::leastDayWithWholeStores);
        doc.test("Promise 20", "(NONE: never by what is told,", SentencesOnQuestions::neverByWhatIsTold);
        doc.test("Promise 20", "or it isn't THERE).", SentencesOnQuestions::noLeastDayOfGoneOnes);
    }

    private static void leastDayFromTheClocks(Sentences s) {
        PapersHeld x = Papers.withWords(1);
        x.rule(0, 2);
        Checks.hold(x, "w0", 0);
        x.ends(0, 2);
        s.due("its term, on the hold's end", 2, x.versionOf(0, 7));
        x.ends(0, 3);
        s.due("the hold's end behind its term", 3, x.versionOf(0, 7));
        x.ends(0, 1);
        s.due("the hold's end ahead of its term", 2, x.versionOf(0, 7));
        x.days(1);
        x.broken(0, true);
        x.days(4);
        s.due("its term is ahead of the clock's day", 5, x.versionOf(0, 7));
        x.forget(0);
        s.due("by a wish too", 5, x.versionOf(0, 7));
    }

    private static void leastDayBetweenHolds(Sentences s) {
        PapersHeld x = Papers.withWords(1);
        x.forget(0);
        for (int h = 11; h >= 0; h--) {
            Checks.hold(x, "w0", 10 * h);
            x.ends(11 - h, 10 * h + 10);
        }
        s.due("behind twelve, each from the end of another on", 120, x.versionOf(0, 7));
        x.ends(5, 69);
        s.due("the day between two", 69, x.versionOf(0, 7));
        x.ends(5, 71);
        s.due("two that overlap", 120, x.versionOf(0, 7));
        x.ends(11, 0);
        s.due("the first is no more", 0, x.versionOf(0, 7));
    }

    private static void leastDayIsTheLast(Sentences s) {
        PapersHeld x = Papers.withWords(1);
        x.forget(0);
        Checks.hold(x, "w0", 0);
        x.ends(0, 5000);
        s.due("held till the last day", 5000, x.versionOf(0, 7));
        Papers.toDay(x, 1000);
        x.thing(1, 1);
        x.version(1, 2, 0);
        x.rule(1, 4000);
        s.due("its term is the last day", 5000, x.versionOf(1, 7));
        x.days(1);
        x.version(1, 2, 0);
        s.due("its term is one behind it", -1, x.versionOf(2, 7));
    }

    private static void leastDayWithWholeStores(Sentences s) {
        PapersHeld x = Papers.withWords(1);
        x.rule(0, 3);
        x.broken(0, true);
        s.due("its store is broken", 3, x.versionOf(0, 7));
        Papers.toDay(x, 4);
        s.due("it is there still", 4, x.versionOf(0, 7));
        Checks.hold(x, "p0", 5);
        x.gives(0, 1);
        s.due("a hold from tomorrow on changes nothing", 4, x.versionOf(0, 7));
        s.due("the question changes nothing", 4, x.about(2));
        s.due("it is there still", 1, x.versionOf(0, 3));
    }

    private static void neverByWhatIsTold(Sentences s) {
        PapersHeld x = Papers.withWords(1);
        s.due("no rule, no wish", -1, x.versionOf(0, 7));
        x.rule(1, 0);
        s.due("a rule of another kind", -1, x.versionOf(0, 7));
        x.forget(1);
        s.due("a wish of another", -1, x.versionOf(0, 7));
        x.rule(0, 5);
        s.due("a rule", 5, x.versionOf(0, 7));
        Checks.hold(x, "w0", 5);
        s.due("a hold without an end", -1, x.versionOf(0, 7));
        x.ends(0, 6);
        s.due("a hold with one", 6, x.versionOf(0, 7));
        Checks.hold(x, "w0", 6);
        s.due("another from then on", -1, x.versionOf(0, 7));
    }

    private static void noLeastDayOfGoneOnes(Sentences s) {
        PapersHeld x = Papers.withWords(0);
        x.backup(0);
        x.forget(0);
        s.due("there", 0, x.versionOf(0, 7));
        x.days(1);
        s.due("gone", -1, x.versionOf(0, 7));
        x.restore(0);
        s.due("back", 1, x.versionOf(0, 7));
    }

    private static void would(Sentences doc) {
        doc.test("Promise 21", "How many VERSIONS that are THERE would have gone by the end of a DAY", SentencesOnQuestions::goneByADay);
        doc.test("Promise 21", "(from the clock's on)", SentencesOnQuestions::notAheadOfTheClock);
        doc.test("Promise 21", "if there were no HOLDS,", SentencesOnQuestions::goneWithoutHolds);
        doc.test("Promise 21", "and STORES were whole (what 0),", SentencesOnQuestions::goneWithWholeStores);
        doc.test("Promise 21", "will not go by then for HOLDS that are told (1).", SentencesOnQuestions::notGoneForHolds);
        doc.test("Promise 21", "NONE for others.", SentencesOnQuestions::noOtherDaysOrQuestions);
    }

    private static void goneByADay(Sentences s) {
        PapersHeld x = Papers.withWords(0);
        x.thing(1, 1);
        x.version(1, 0, 0);
        s.due("no rules", 0, x.would(5000, 0));
        x.rule(0, 3);
        x.rule(1, 4);
        int[] want = {0, 0, 0, 1, 2, 2};
        for (int day = 0; day < want.length; day++) {
            s.due("by day " + day, want[day], x.would(day, 0));
        }
        s.due("by the last day", 2, x.would(5000, 0));
        Papers.toDay(x, 4);
        s.due("one has gone", 1, x.would(5000, 0));
        x.days(1);
        s.due("both have", 0, x.would(5000, 0));
        s.due("its term is behind the last day", 0, behindTheLastDay().would(5000, 0));
        s.due("its term is the last day", 1, onTheLastDay().would(5000, 0));
        s.due("the day ahead", 0, onTheLastDay().would(4999, 0));
    }

    private static PapersHeld onTheLastDay() {
        PapersHeld x = new PapersHeld();
        x.thing(0, 0);
        x.rule(0, 4000);
        Papers.toDay(x, 1000);
        x.version(0, 0, 0);
        return x;
    }

    private static PapersHeld behindTheLastDay() {
        PapersHeld x = new PapersHeld();
        x.thing(0, 0);
        x.rule(0, 4000);
        Papers.toDay(x, 1001);
        x.version(0, 0, 0);
        return x;
    }

    private static void notAheadOfTheClock(Sentences s) {
        PapersHeld x = Papers.withWords(0);
        x.forget(0);
        s.due("day 0 on day 0", 1, x.would(0, 0));
        x.broken(0, true);
        x.days(7);
        for (int what = 0; what < 2; what++) {
            s.due("would(6, " + what + ")", -1, x.would(6, what));
            s.due("would(0, " + what + ")", -1, x.would(0, what));
        }
        s.due("would(7, 0)", 1, x.would(7, 0));
        s.due("would(7, 1)", 0, x.would(7, 1));
        Papers.toDay(x, 5000);
        s.due("would(4999, 0) on day 5000", -1, x.would(4999, 0));
        s.due("would(5000, 0) on day 5000", 1, x.would(5000, 0));
    }

    private static void goneWithoutHolds(Sentences s) {
        PapersHeld x = Papers.withWords(1, 2);
        x.forget(0);
        Checks.hold(x, "w0", 0);
        s.due("one is held", 2, x.would(0, 0));
        Checks.hold(x, "w1", 0);
        s.due("both are", 2, x.would(0, 0));
        x.days(50);
        s.due("held till now", 2, x.would(50, 0));
    }

    private static void goneWithWholeStores(Sentences s) {
        PapersHeld x = Papers.withWords(1, 2);
        x.copy(1, 1);
        x.broken(0, true);
        x.forget(0);
        s.due("in broken stores", 2, x.would(0, 0));
        x.days(1);
        s.due("they are there still", 2, x.would(1, 0));
    }

    private static void notGoneForHolds(Sentences s) {
        PapersHeld x = Papers.withWords(1, 2, 4);
        x.rule(0, 2);
        s.due("no holds", 0, x.would(5000, 1));
        Checks.hold(x, "w0", 0);
        Checks.hold(x, "w1", 0);
        x.ends(1, 4);
        Checks.hold(x, "w2", 3);
        int[] want = {0, 0, 2, 2, 1, 1};
        for (int day = 0; day < want.length; day++) {
            s.due("by day " + day, want[day], x.would(day, 1));
        }
        s.due("by the last day", 1, x.would(5000, 1));
        x.broken(0, true);
        Papers.toDay(x, 3);
        s.due("the third one's store is broken, its hold lives", 3, x.would(3, 1));
        x.ends(2, 3);
        s.due("not for holds, but for its store", 2, x.would(3, 1));
        x.ends(0, 5000);
        s.due("held till the last day", 1, x.would(4999, 1));
        s.due("free on the last day", 0, x.would(5000, 1));
        x.broken(0, false);
        x.days(2);
        s.due("those that are there", 1, x.would(5, 1));
    }

    private static void noOtherDaysOrQuestions(Sentences s) {
        PapersHeld x = Papers.small();
        for (int day : Papers.outside(5001)) {
            s.due("would(" + day + ", 0)", -1, x.would(day, 0));
            s.due("would(" + day + ", 1)", -1, x.would(day, 1));
        }
        for (int what : Papers.outside(2)) {
            s.due("would(9, " + what + ")", -1, x.would(9, what));
        }
    }

    private static void about(Sentences doc) {
        doc.test("Terms", "OPEN on the clock's DAY: a VERSION that is THERE, DUE, not HELD, and only in BROKEN STORES.",
                SentencesOnQuestions::openOnes);
        doc.test("Promise 26", "0 THINGS, 1 VERSIONS, 2 the clock's DAY, 3 HOLDS, 4 RULES, 5 RECORDS,", SentencesOnQuestions::counts);
        doc.test("Promise 26", "6 VERSIONS that are THERE,", SentencesOnQuestions::thoseThatAreThere);
        doc.test("Promise 26", "7 OPEN ones,", SentencesOnQuestions::openOnes);
        doc.test("Promise 26", "8 HELD ones that are THERE, on the clock's DAY,", SentencesOnQuestions::heldOnes);
        doc.test("Promise 26", "9 bytes of the tape,", SentencesOnQuestions::bytesOfTheTape);
        doc.test("Promise 26", "10 BROKEN STORES (a set),", SentencesOnQuestions::brokenStores);
        doc.test("Promise 26", "20 + t: OWNER of a THING,", SentencesOnQuestions::ownerOfAThing);
        doc.test("Promise 26", "60 + t: its OWNERS (a set).", SentencesOnQuestions::ownersOfAThing);
        doc.test("Promise 26", "NONE for others.", SentencesOnQuestions::noOtherQuestions);
        doc.test("Promise 26", "NONE for others.", SentencesOnQuestions::noOtherThings);
    }

    private static void openOnes(Sentences s) {
        PapersHeld x = Papers.withWords(1, 2, 4, 8);
        x.copy(3, 1);
        x.broken(0, true);
        s.due("none is due", 0, x.about(7));
        x.rule(0, 1);
        s.due("none is due today", 0, x.about(7));
        Checks.hold(x, "w0", 1);
        Checks.hold(x, "w1", 2);
        x.ends(0, 2);
        x.days(1);
        s.due("not the held one, nor the one with a whole copy", 2, x.about(7));
        x.days(1);
        s.due("another one is held, and the last has a broken copy alone", 3, x.about(7));
        x.broken(0, false);
        s.due("the store is whole", 0, x.about(7));
        x.days(1);
        x.broken(0, true);
        s.due("gone ones and a held one", 0, x.about(7));
    }

    private static void counts(Sentences s) {
        PapersHeld x = new PapersHeld();
        for (int what = 0; what < 6; what++) {
            s.due("new: about(" + what + ")", 0, x.about(what));
        }
        for (int t = 0; t < 40; t++) {
            x.thing(0, 0);
        }
        for (int v = 0; v < 120; v++) {
            x.version(v % 40, 0, 0);
        }
        for (int h = 0; h < 12; h++) {
            Checks.hold(x, "w0", 0);
        }
        for (int r = 0; r < 20; r++) {
            x.rule(0, 0);
        }
        Papers.toDay(x, 5000);
        int[] full = {40, 120, 5000, 12, 20, 120};
        for (int what = 0; what < 6; what++) {
            s.due("full: about(" + what + ")", full[what], x.about(what));
        }
    }

    private static void thoseThatAreThere(Sentences s) {
        PapersHeld x = new PapersHeld();
        x.thing(0, 0);
        for (int v = 0; v < 120; v++) {
            x.version(0, 0, v % 6);
        }
        s.due("all", 120, x.about(6));
        x.broken(5, true);
        x.forget(0);
        x.days(1);
        s.due("those in a broken store", 20, x.about(6));
        x.broken(5, false);
        x.days(1);
        s.due("none", 0, x.about(6));
    }

    private static void heldOnes(Sentences s) {
        PapersHeld x = Papers.withWords(1, 3, 2, 0);
        s.due("no holds", 0, x.about(8));
        Checks.hold(x, "w0", 1);
        Checks.hold(x, "w1", 1);
        s.due("not yet", 0, x.about(8));
        x.days(1);
        s.due("each once", 3, x.about(8));
        x.ends(1, 2);
        x.days(1);
        s.due("one hold has ended", 2, x.about(8));
        x.ends(0, 2);
        s.due("both have", 0, x.about(8));
        x.forget(0);
        x.days(1);
        Checks.hold(x, "k0", 3);
        s.due("gone ones", 0, x.about(8));
    }

    private static void bytesOfTheTape(Sentences s) {
        PapersHeld x = new PapersHeld();
        s.due("none", 0, x.about(9));
        for (int bytes = 20; bytes <= 60; bytes += 20) {
            x.feed(0, 0, 0, 0, 0);
            s.due("fed", bytes, x.about(9));
        }
        x.end(59);
        s.due("cut", 59, x.about(9));
        x.hold(0);
        s.due("read", 0, x.about(9));
    }

    private static void brokenStores(Sentences s) {
        PapersHeld x = new PapersHeld();
        s.due("none", 0, x.about(10));
        int set = 0;
        for (int store = 0; store < 6; store++) {
            set |= 1 << store;
            x.broken(store, true);
            s.due("broken", set, x.about(10));
        }
        for (int store = 0; store < 6; store++) {
            set &= ~(1 << store);
            x.broken(store, false);
            s.due("whole", set, x.about(10));
        }
    }

    private static void ownerOfAThing(Sentences s) {
        PapersHeld x = new PapersHeld();
        for (int t = 0; t < 40; t++) {
            s.due("about(" + (20 + t) + ") ahead of it", -1, x.about(20 + t));
            x.thing(0, t % 10);
            s.due("about(" + (20 + t) + ")", t % 10, x.about(20 + t));
        }
    }

    private static void ownersOfAThing(Sentences s) {
        PapersHeld x = new PapersHeld();
        for (int t = 0; t < 40; t++) {
            s.due("about(" + (60 + t) + ") ahead of it", -1, x.about(60 + t));
            x.thing(0, t % 10);
            s.due("about(" + (60 + t) + ")", 1 << t % 10, x.about(60 + t));
        }
        x.gives(0, 9);
        s.due("about(60), given", 513, x.about(60));
        s.due("about(99), not given", 512, x.about(99));
    }

    private static void noOtherQuestions(Sentences s) {
        PapersHeld x = Papers.small();
        for (int what = 11; what < 20; what++) {
            s.due("about(" + what + ")", -1, x.about(what));
        }
        for (int what : Papers.outside(100)) {
            s.due("about(" + what + ")", -1, x.about(what));
        }
        // Less 20 or 60, these wrap around to numbers of THINGS or near them.
        for (int base : new int[] {Integer.MIN_VALUE, Integer.MAX_VALUE - 60}) {
            for (int more = 0; more <= 60; more++) {
                s.due("about(" + (base + more) + ")", -1, x.about(base + more));
            }
        }
    }

    private static void noOtherThings(Sentences s) {
        PapersHeld x = Papers.small();
        s.due("about(21)", 3, x.about(21));
        s.due("about(61)", 8, x.about(61));
        for (int t = 2; t < 40; t++) {
            s.due("about(" + (20 + t) + ")", -1, x.about(20 + t));
            s.due("about(" + (60 + t) + ")", -1, x.about(60 + t));
        }
    }
}
