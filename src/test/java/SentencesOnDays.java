/** Sentences of promises 17 to 19, 24 and 25, and of the terms, on RULES, WISHES, DAYS that end, RECORDS and THE CHAIN. */
final class SentencesOnDays {
    private SentencesOnDays() {
    }

    static void all(Sentences doc) {
        rules(doc);
        wishes(doc);
        daysThatEnd(doc);
        days(doc);
        records(doc);
    }

    private static void rules(Sentences doc) {
        doc.test("Terms", "RULES (up to 20):", SentencesOnDays::no21stRule);
        doc.test("Terms", "a KIND, days (0 .. 4000):", SentencesOnDays::ruleDays0To4000);
        doc.test("Terms", "its TERM is its DAY and the most of the RULES' days of its KIND;", SentencesOnDays::theMostOfItsKind);
        doc.test("Terms", "none without RULES.", SentencesOnDays::noTermWithoutRules);
        doc.test("Promise 17", "A RULE: how many there are.", SentencesOnDays::howManyRules);
        doc.test("Promise 17", "NONE for others,", SentencesOnDays::noRuleOfOtherKinds);
        doc.test("Promise 17", "NONE for others,", SentencesOnDays::noRuleOfOtherDays);
        doc.test("Promise 17", "or if there are 20.", SentencesOnDays::no21stRule);
    }

    private static void ruleDays0To4000(Sentences s) {
        PapersHeld x = new PapersHeld();
        x.thing(0, 0);
        x.thing(5, 0);
        x.days(1);
        x.version(0, 0, 0);
        x.version(1, 0, 0);
        s.due("rule(0, 0)", 1, x.rule(0, 0));
        s.due("rule(5, 4000)", 2, x.rule(5, 4000));
        s.due("rule(0, 4001)", -1, x.rule(0, 4001));
        s.due("rule(0, -1)", -1, x.rule(0, -1));
        s.due("term of 0", 1, x.versionOf(0, 5));
        s.due("term of 1", 4001, x.versionOf(1, 5));
    }

    private static void theMostOfItsKind(Sentences s) {
        PapersHeld x = new PapersHeld();
        x.thing(2, 0);
        x.days(3);
        x.version(0, 0, 0);
        x.days(2);
        x.version(0, 0, 0);
        x.rule(1, 4000);
        x.rule(3, 4000);
        int[] days = {7, 6, 7, 8, 0, 4000};
        int[] most = {7, 7, 7, 8, 8, 4000};
        for (int i = 0; i < days.length; i++) {
            x.rule(2, days[i]);
            s.due("term with " + days[i], 3 + most[i], x.versionOf(0, 5));
            s.due("that of a later one", 5 + most[i], x.versionOf(1, 5));
        }
    }

    private static void noTermWithoutRules(Sentences s) {
        PapersHeld x = new PapersHeld();
        for (int kind = 0; kind < 6; kind++) {
            x.thing(kind, 0);
            x.version(kind, 0, 0);
            s.due("term of kind " + kind, -1, x.versionOf(kind, 5));
            s.due("due", 0, x.versionOf(kind, 6));
        }
        x.rule(3, 0);
        for (int kind = 0; kind < 6; kind++) {
            s.due("term of kind " + kind, kind == 3 ? 0 : -1, x.versionOf(kind, 5));
        }
        s.due("one goes", 1, x.days(100));
        Papers.toDay(x, 5000);
        s.due("no other ever", 1, x.about(5));
    }

    private static void howManyRules(Sentences s) {
        PapersHeld x = new PapersHeld();
        s.due("the first", 1, x.rule(5, 4000));
        s.due("the same once more", 2, x.rule(5, 4000));
        s.due("rules", 2, x.about(4));
    }

    private static void noRuleOfOtherKinds(Sentences s) {
        PapersHeld x = Papers.small();
        String before = Papers.answers(x);
        for (int kind : Papers.outside(6)) {
            s.due("rule(" + kind + ", 9)", -1, x.rule(kind, 9));
        }
        s.unchanged("other kinds", before, x);
    }

    private static void noRuleOfOtherDays(Sentences s) {
        PapersHeld x = Papers.small();
        String before = Papers.answers(x);
        for (int days : Papers.outside(4001)) {
            s.due("rule(1, " + days + ")", -1, x.rule(1, days));
            s.due("rule(0, " + days + ")", -1, x.rule(0, days));
        }
        s.unchanged("other days", before, x);
    }

    private static void no21stRule(Sentences s) {
        PapersHeld x = Papers.withWords(0);
        for (int r = 1; r <= 20; r++) {
            s.due("rule " + r, r, x.rule(0, r));
        }
        s.due("the 21st", -1, x.rule(0, 4000));
        s.due("of another kind", -1, x.rule(5, 0));
        s.due("rules", 20, x.about(4));
        s.due("the term is that of the twenty", 20, x.versionOf(0, 5));
        x.thing(5, 0);
        x.version(1, 0, 0);
        s.due("no term of another kind", -1, x.versionOf(1, 5));
    }

    private static void wishes(Sentences doc) {
        doc.test("Terms", "WISHES: a PERSON is to be forgotten, from the clock's DAY on:", SentencesOnDays::fromTheClocksDayOn);
        doc.test("Terms", "a VERSION of a THING whose OWNER (at hand) that is, is DUE then.", SentencesOnDays::theOwnerAtHand);
        doc.test("Promise 18", "A WISH: true.", SentencesOnDays::wishesOfAll);
        doc.test("Promise 18", "False: there is none such,", SentencesOnDays::noOtherWishes);
        doc.test("Promise 18", "or it is there.", SentencesOnDays::noWishTwice);
    }

    private static void fromTheClocksDayOn(Sentences s) {
        PapersHeld x = Papers.withWords(0);
        x.days(5);
        s.due("due ahead of the wish", 0, x.versionOf(0, 6));
        x.forget(0);
        s.due("due on its day", 1, x.versionOf(0, 6));
        s.due("it goes on its day", 5, x.versionOf(0, 7));
        x.days(1);
        s.due("it went on its day", 5, x.record(0, 1));
        x.version(0, 0, 0);
        s.due("one that comes later is due", 1, x.versionOf(1, 6));
        Papers.toDay(x, 5000);
        x.version(0, 0, 0);
        s.due("on the last day too", 1, x.versionOf(2, 6));
    }

    private static void theOwnerAtHand(Sentences s) {
        PapersHeld x = new PapersHeld();
        x.thing(0, 1);
        x.thing(0, 2);
        x.version(0, 0, 0);
        x.version(1, 0, 0);
        x.forget(1);
        s.due("its owner's wish", 1, x.versionOf(0, 6));
        s.due("another's", 0, x.versionOf(1, 6));
        x.gives(1, 3);
        s.due("its owner of once", 0, x.versionOf(0, 6));
        x.gives(2, 1);
        s.due("its new owner", 1, x.versionOf(1, 6));
        s.due("one goes", 1, x.days(1));
        s.due("which", 1, x.record(0, 0));
    }

    private static void wishesOfAll(Sentences s) {
        PapersHeld x = new PapersHeld();
        for (int person = 0; person < 10; person++) {
            x.thing(0, person);
            x.version(person, 0, 0);
        }
        for (int person = 0; person < 10; person++) {
            s.due("due ahead of it", 0, x.versionOf(person, 6));
            s.due("forget(" + person + ")", true, x.forget(person));
            s.due("due", 1, x.versionOf(person, 6));
        }
        s.due("all are due", 10, x.would(0, 0));
        s.due("all go", 10, x.days(1));
    }

    private static void noOtherWishes(Sentences s) {
        PapersHeld x = Papers.small();
        x.thing(0, 0);
        String before = Papers.answers(x);
        for (int person : Papers.outside(10)) {
            s.due("forget(" + person + ")", false, x.forget(person));
        }
        s.unchanged("other persons", before, x);
    }

    private static void noWishTwice(Sentences s) {
        PapersHeld x = Papers.withWords(0);
        s.due("forget(0)", true, x.forget(0));
        s.due("again", false, x.forget(0));
        s.due("due still", 1, x.versionOf(0, 6));
        x.days(100);
        s.due("later", false, x.forget(0));
        x.version(0, 0, 0);
        s.due("it stands", 1, x.versionOf(1, 6));
    }

    private static void daysThatEnd(Sentences doc) {
        doc.test("Terms", "A VERSION is DUE on a DAY if its TERM is that DAY or ahead of it,", SentencesOnDays::dueByItsTerm);
        doc.test("Terms", "or by a WISH.", SentencesOnDays::dueByAWish);
        doc.test("Terms", "A DAY ends: each VERSION that is THERE, DUE on it, and not HELD:", SentencesOnDays::thereDueAndNotHeld);
        doc.test("Terms", "its COPIES go out of all STORES that aren't BROKEN;", SentencesOnDays::outOfAllWholeStores);
        doc.test("Terms", "by rising numbers;", SentencesOnDays::byRisingNumbers);
        doc.test("Terms", "each such of which a COPY went is a RECORD.", SentencesOnDays::recordIfACopyWent);
        doc.test("Terms", "Then the clock is one more.", SentencesOnDays::thenTheClockIsOneMore);
    }

    private static void dueByItsTerm(Sentences s) {
        PapersHeld x = Papers.withWords(0);
        x.rule(0, 2);
        Checks.hold(x, "k0", 0);
        int[] want = {0, 0, 1, 1, 1};
        for (int day = 0; day < want.length; day++) {
            s.due("on day " + day, want[day], x.versionOf(0, 6));
            x.days(1);
        }
        x.rule(0, 6);
        s.due("a longer rule: on day 5", 0, x.versionOf(0, 6));
        x.days(1);
        s.due("on day 6", 1, x.versionOf(0, 6));
    }

    private static void dueByAWish(Sentences s) {
        PapersHeld x = Papers.withWords(0);
        x.rule(0, 4000);
        s.due("ahead of it", 0, x.versionOf(0, 6));
        x.forget(0);
        s.due("its term is far off", 4000, x.versionOf(0, 5));
        s.due("it is due", 1, x.versionOf(0, 6));
        s.due("it goes", 1, x.days(1));
    }

    private static void thereDueAndNotHeld(Sentences s) {
        PapersHeld x = Papers.withWords(1, 2);
        x.rule(0, 2);
        Checks.hold(x, "w0", 2);
        x.ends(0, 4);
        int[] want = {0, 0, 1, 0, 1, 0};
        for (int day = 0; day < want.length; day++) {
            s.due("at the end of day " + day, want[day], x.days(1));
        }
        s.due("first the one that isn't held", 1, x.record(0, 0));
        s.due("then the other", 0, x.record(1, 0));
    }

    private static void outOfAllWholeStores(Sentences s) {
        PapersHeld x = Papers.withWords(0);
        for (int store = 1; store < 6; store++) {
            x.copy(0, store);
        }
        x.broken(0, true);
        x.broken(5, true);
        x.forget(0);
        x.days(1);
        s.due("those in broken ones stay", 33, x.versionOf(0, 3));
        s.due("those that went", 30, x.record(0, 2));
        x.broken(5, false);
        x.days(1);
        s.due("one stays", 1, x.versionOf(0, 3));
        s.due("one went", 32, x.record(1, 2));
        x.broken(0, false);
        x.days(1);
        s.due("none stays", 0, x.versionOf(0, 3));
        s.due("the last went", 1, x.record(2, 2));
    }

    private static void byRisingNumbers(Sentences s) {
        PapersHeld x = new PapersHeld();
        x.thing(0, 0);
        x.thing(1, 1);
        for (int v = 0; v < 120; v++) {
            x.version(1 - v % 2, 0, 0);
        }
        x.rule(0, 0);
        x.forget(1);
        s.due("all go", 120, x.days(1));
        for (int v = 0; v < 120; v++) {
            s.due("record " + v, v, x.record(v, 0));
        }
    }

    private static void recordIfACopyWent(Sentences s) {
        PapersHeld x = Papers.withWords(0, 0);
        x.copy(1, 1);
        x.broken(0, true);
        x.forget(0);
        s.due("in a broken store alone: no record", 1, x.days(1));
        s.due("which", 1, x.record(0, 0));
        s.due("both have broken copies alone", 0, x.days(10));
        x.broken(0, false);
        s.due("both go", 2, x.days(10));
        s.due("they have gone: no record", 0, x.days(10));
        s.due("records", 3, x.about(5));
    }

    private static void thenTheClockIsOneMore(Sentences s) {
        PapersHeld x = Papers.withWords(0, 0);
        x.rule(0, 1);
        x.days(2);
        s.due("the day of its end, not the next", 1, x.record(0, 1));
        s.due("of all on it", 1, x.record(1, 1));
        s.due("the clock", 2, x.about(2));
        x.days(1);
        s.due("the clock", 3, x.about(2));
    }

    private static void days(Sentences doc) {
        doc.test("Promise 19", "n DAYS end (1 .. 100): how many RECORDS came.", SentencesOnDays::oneToAHundred);
        doc.test("Promise 19", "NONE for others,", SentencesOnDays::noOtherNumberOfDays);
        doc.test("Promise 19", "or beyond 5000.", SentencesOnDays::notBeyond5000);
    }

    private static void oneToAHundred(Sentences s) {
        PapersHeld x = Papers.withWords(0, 0);
        x.rule(0, 0);
        s.due("one day: two records", 2, x.days(1));
        s.due("the clock", 1, x.about(2));
        s.due("a hundred: none", 0, x.days(100));
        s.due("the clock", 101, x.about(2));
        x.version(0, 0, 0);
        s.due("one record, not all", 1, x.days(100));
        x.rule(0, 99);
        x.version(0, 0, 0);
        s.due("99 days are too few", 0, x.days(99));
        s.due("the hundredth", 1, x.days(1));
        x.version(0, 0, 0);
        s.due("the last of a hundred", 1, x.days(100));
    }

    private static void noOtherNumberOfDays(Sentences s) {
        PapersHeld x = Papers.small();
        x.forget(3);
        String before = Papers.answers(x);
        s.due("days(0)", -1, x.days(0));
        for (int n : Papers.outside(101)) {
            s.due("days(" + n + ")", -1, x.days(n));
        }
        s.unchanged("other numbers", before, x);
    }

    private static void notBeyond5000(Sentences s) {
        PapersHeld x = Papers.withWords(0);
        Papers.toDay(x, 4901);
        x.forget(0);
        s.due("days(100) from 4901", -1, x.days(100));
        s.due("the clock", 4901, x.about(2));
        s.due("nothing went", 1, x.about(6));
        s.due("days(99)", 1, x.days(99));
        s.due("the clock", 5000, x.about(2));
        x.version(0, 0, 0);
        s.due("days(1) from 5000", -1, x.days(1));
        s.due("days(100) from 5000", -1, x.days(100));
        s.due("days(MAX) from 5000", -1, x.days(Integer.MAX_VALUE));
        s.due("the clock", 5000, x.about(2));
        s.due("nothing went", 1, x.about(6));
        s.due("no record", 1, x.about(5));
    }

    private static void records(Sentences doc) {
        doc.test("Terms", "RECORDS: numbered from 0: the VERSION, the DAY, the STORES it went out of", SentencesOnDays::greatestRecord);
        doc.test("Terms", "(of the first 6,000 that is kept).", SentencesOnDays::sixThousandAreKept);
        doc.test("Terms", "THE CHAIN: 1 at first;", s -> s.due("chain()", 1, new PapersHeld().chain()));
        doc.test("Terms", "behind each RECORD it is 31 times itself and 10000 times the VERSION and 64 times the DAY and the STORES' set",
                SentencesOnDays::theChain);
        doc.test("Terms", "(32 bits).", SentencesOnDays::theChainWrapsAround);
        doc.test("Promise 24", "Of a RECORD: 0 the VERSION, 1 the DAY, 2 the STORES.", SentencesOnDays::greatestRecord);
        doc.test("Promise 24", "NONE if there is none such.", SentencesOnDays::noOtherRecords);
        doc.test("Promise 24", "NONE if there is none such.", SentencesOnDays::noOtherPartsOfRecords);
        doc.test("Promise 24", "NONE if there is none such.", SentencesOnDays::sixThousandAreKept);
        doc.test("Promise 25", "THE CHAIN.", SentencesOnDays::theChain);
        doc.test("Promise 25", "THE CHAIN.", SentencesOnDays::theChainWrapsAround);
    }

    /** VERSION 0 from one STORE on day 0; VERSION 119 from all STORES on the last day that ends. */
    private static void greatestRecord(Sentences s) {
        PapersHeld x = new PapersHeld();
        x.thing(0, 0);
        x.thing(1, 1);
        for (int v = 0; v < 120; v++) {
            x.version(v == 119 ? 1 : 0, 0, 0);
        }
        x.forget(0);
        for (int store = 1; store < 6; store++) {
            x.copy(119, store);
        }
        s.due("records", 119, x.days(1));
        Papers.toDay(x, 4999);
        x.forget(1);
        s.due("one more", 1, x.days(1));
        int[] first = {0, 0, 1};
        int[] last = {119, 4999, 63};
        for (int what = 0; what < 3; what++) {
            s.due("record(0, " + what + ")", first[what], x.record(0, what));
            s.due("record(119, " + what + ")", last[what], x.record(119, what));
        }
    }

    private static void noOtherRecords(Sentences s) {
        PapersHeld x = Papers.withWords(0, 0);
        s.due("record(0, 0) ahead of any", -1, x.record(0, 0));
        x.forget(0);
        x.days(1);
        for (int i : Papers.outside(2)) {
            for (int what = 0; what < 3; what++) {
                s.due("record(" + i + ", " + what + ")", -1, x.record(i, what));
            }
        }
        s.due("the last", 1, x.record(1, 0));
    }

    private static void noOtherPartsOfRecords(Sentences s) {
        PapersHeld x = Papers.withWords(0, 0);
        x.forget(0);
        x.days(1);
        for (int what : Papers.outside(3)) {
            s.due("record(1, " + what + ")", -1, x.record(1, what));
        }
    }

    /** 120 VERSIONS go on each day and come back: 6,000 RECORDS on days 0 to 49, 120 more on day 50. */
    private static void sixThousandAreKept(Sentences s) {
        PapersHeld x = new PapersHeld();
        x.thing(0, 0);
        for (int v = 0; v < 120; v++) {
            x.version(0, 0, 5);
        }
        x.backup(5);
        x.forget(0);
        long chain = 1;
        for (int day = 0; day <= 50; day++) {
            s.due("on day " + day, 120, x.days(1));
            x.restore(0);
            for (int v = 0; v < 120; v++) {
                chain = 31 * chain + 10000 * v + 64 * day + 32 & 0xffffffffL;
            }
        }
        int[] last = {119, 49, 32};
        for (int what = 0; what < 3; what++) {
            s.due("record(5999, " + what + ")", last[what], x.record(5999, what));
            s.due("record(6000, " + what + ")", -1, x.record(6000, what));
            s.due("record(6119, " + what + ")", -1, x.record(6119, what));
        }
        s.due("all are counted", 6120, x.about(5));
        s.due("all are in the chain", (int) chain, x.chain());
    }

    private static void theChain(Sentences s) {
        PapersHeld x = Papers.withWords(0, 0);
        x.copy(0, 5);
        x.days(2);
        s.due("without records", 1, x.chain());
        x.forget(0);
        x.days(1);
        s.due("behind two", (31 + 64 * 2 + 33) * 31 + 10000 + 64 * 2 + 1, x.chain());
        x.days(3);
        s.due("without more", (31 + 64 * 2 + 33) * 31 + 10000 + 64 * 2 + 1, x.chain());
    }

    private static void theChainWrapsAround(Sentences s) {
        PapersHeld x = new PapersHeld();
        x.thing(0, 0);
        x.forget(0);
        Papers.toDay(x, 4900);
        long chain = 1;
        boolean wasAbove = false;
        boolean wasNegative = false;
        for (int v = 0; v < 30; v++) {
            x.version(0, 0, 5);
            x.days(1);
            long more = 31 * chain + 10000L * v + 64L * (4900 + v) + 32;
            wasAbove |= more > 0xffffffffL;
            chain = more & 0xffffffffL;
            wasNegative |= (int) chain < 0;
            s.due("behind record " + v, (int) chain, x.chain());
        }
        s.due("it wrapped around", true, wasAbove && wasNegative);
    }
}
