/** Sentences of promises 1 to 9, and of the terms, on THINGS, VERSIONS, COPIES, STORES and BACKUPS. */
final class SentencesOnStores {
    private SentencesOnStores() {
    }

    static void all(Sentences doc) {
        doc.test("What it is", "An object is used for at most 512 calls", SentencesOnStores::the512thCall);
        doc.test("Terms", "The constants: `NONE = -1`: None.", s -> s.due("NONE", -1, PapersHeld.NONE));
        newObject(doc);
        ranges(doc);
        things(doc);
        versions(doc);
        owners(doc);
        copies(doc);
        moves(doc);
        brokenStores(doc);
        backups(doc);
    }

    private static void the512thCall(Sentences s) {
        PapersHeld x = new PapersHeld();
        x.thing(0, 0);
        x.version(0, 0, 0);
        x.forget(0);
        for (int call = 4; call < 512; call++) {
            s.due("call " + call + ", about(6)", 1, x.about(6));
        }
        s.due("call 512, days(1)", 1, x.days(1));
    }

    private static void newObject(Sentences doc) {
        doc.test("Promise 1", "No THINGS, HOLDS, RULES, WISHES;", SentencesOnStores::nothingAtFirst);
        doc.test("Promise 1", "No THINGS, HOLDS, RULES, WISHES;", SentencesOnStores::nothingOfAnotherObject);
        doc.test("Promise 1", "DAY 0.", s -> s.due("about(2)", 0, new PapersHeld().about(2)));
    }

    private static void nothingAtFirst(Sentences s) {
        PapersHeld x = new PapersHeld();
        for (int what : new int[] {0, 1, 3, 4, 5, 6, 7, 8, 9, 10}) {
            s.due("about(" + what + ")", 0, x.about(what));
        }
        s.due("about(20)", -1, x.about(20));
        s.due("about(60)", -1, x.about(60));
        s.due("fits(0)", -1, x.fits(0));
        s.due("restore(0)", -1, x.restore(0));
        s.due("record(0, 0)", -1, x.record(0, 0));
        s.due("would(5000, 0)", 0, x.would(5000, 0));
        for (int person = 0; person < 10; person++) {
            x.thing(person % 6, person);
            x.version(person, 0, 0);
            s.due("no wish of " + person, 0, x.versionOf(person, 6));
            s.due("no rule of kind " + person % 6, -1, x.versionOf(person, 5));
            s.due("no hold", 0, x.versionOf(person, 4));
        }
    }

    private static void nothingOfAnotherObject(Sentences s) {
        PapersHeld used = Papers.small();
        used.forget(3);
        used.broken(5, true);
        used.days(3);
        s.due("the used one has a record", 1, used.about(5));
        PapersHeld x = new PapersHeld();
        s.due("answers", true, Papers.answers(x).equals("0 0 0 0 0 0 0 0 0 0 0 c 1 f -1 -1"));
    }

    private static void ranges(Sentences doc) {
        doc.test("Terms", "DAYS 0 .. 5000, the clock's at first 0.", SentencesOnStores::days0To5000);
        doc.test("Terms", "PERSONS 0 .. 9,", SentencesOnStores::persons0To9);
        doc.test("Terms", "KINDS 0 .. 5,", SentencesOnStores::kinds0To5);
        doc.test("Terms", "WORDS 0 .. 29,", SentencesOnStores::words0To29);
        doc.test("Terms", "STORES 0 .. 5.", SentencesOnStores::stores0To5);
    }

    private static void days0To5000(Sentences s) {
        PapersHeld x = new PapersHeld();
        s.due("at first", 0, x.about(2));
        s.due("a hold from day 0", 0, Checks.hold(x, "w0", 0));
        s.due("a hold from day 5000", 1, Checks.hold(x, "w0", 5000));
        s.due("a hold from day 5001", -1, Checks.hold(x, "w0", 5001));
        s.due("an end on day 5000", true, x.ends(0, 5000));
        s.due("what would go by day 5000", 0, x.would(5000, 0));
        s.due("what would go by day 5001", -1, x.would(5001, 0));
        Papers.toDay(x, 5000);
        s.due("the clock", 5000, x.about(2));
        s.due("one day more", -1, x.days(1));
    }

    private static void persons0To9(Sentences s) {
        PapersHeld x = new PapersHeld();
        s.due("thing of 0", 0, x.thing(0, 0));
        s.due("thing of 9", 1, x.thing(0, 9));
        s.due("gives(0, 9)", 1, x.gives(0, 9));
        s.due("gives(9, 0)", 2, x.gives(9, 0));
        s.due("forget(0)", true, x.forget(0));
        s.due("forget(9)", true, x.forget(9));
        s.due("hold of p0", 0, Checks.hold(x, "p0", 0));
        s.due("hold of p9", 1, Checks.hold(x, "p9", 0));
        s.due("hold of p10", -1, Checks.hold(x, "p10", 0));
        s.due("thing of 10", -1, x.thing(0, 10));
        s.due("gives(0, 10)", -1, x.gives(0, 10));
        s.due("forget(10)", false, x.forget(10));
    }

    private static void kinds0To5(Sentences s) {
        PapersHeld x = new PapersHeld();
        s.due("thing of 0", 0, x.thing(0, 0));
        s.due("thing of 5", 1, x.thing(5, 0));
        s.due("thing of 6", -1, x.thing(6, 0));
        s.due("rule of 0", 1, x.rule(0, 0));
        s.due("rule of 5", 2, x.rule(5, 0));
        s.due("rule of 6", -1, x.rule(6, 0));
        s.due("hold of k0", 0, Checks.hold(x, "k0", 0));
        s.due("hold of k5", 1, Checks.hold(x, "k5", 0));
        s.due("hold of k6", -1, Checks.hold(x, "k6", 0));
    }

    private static void words0To29(Sentences s) {
        PapersHeld x = Papers.withWords(1, 1 << 29, (1 << 30) - 1);
        s.due("word 0", 1, x.versionOf(0, 1));
        s.due("word 29", 1 << 29, x.versionOf(1, 1));
        s.due("all words", (1 << 30) - 1, x.versionOf(2, 1));
        s.due("word 30", -1, x.version(0, 1 << 30, 0));
        Checks.hold(x, "w0", 0);
        Checks.hold(x, "w29", 0);
        s.due("w0 fits", 2, x.fits(0));
        s.due("w29 fits", 2, x.fits(1));
        s.due("hold of w30", -1, Checks.hold(x, "w30", 0));
    }

    private static void stores0To5(Sentences s) {
        PapersHeld x = Papers.withWords(0);
        s.due("copy into 5", true, x.copy(0, 5));
        s.due("copy into 6", false, x.copy(0, 6));
        s.due("version in 5", 1, x.version(0, 0, 5));
        s.due("version in 6", -1, x.version(0, 0, 6));
        s.due("move from 0 to 5", true, x.move(0, 0, 5));
        s.due("move from 5 to 0", true, x.move(0, 5, 0));
        s.due("move from 0 to 6", false, x.move(0, 0, 6));
        s.due("backup of 0", 0, x.backup(0));
        s.due("backup of 5", 1, x.backup(5));
        s.due("backup of 6", -1, x.backup(6));
        s.due("broken 0", true, x.broken(0, true));
        s.due("broken 5", true, x.broken(5, true));
        s.due("broken 6", false, x.broken(6, true));
        s.due("broken stores", 33, x.about(10));
    }

    private static void things(Sentences doc) {
        doc.test("Terms", "THINGS 0 .. 39: a KIND,", SentencesOnStores::things0To39);
        doc.test("Terms", "an OWNER (and all who ever were: OWNERS).", SentencesOnStores::allWhoEverWere);
        doc.test("Promise 2", "A THING without VERSIONS: its number.", SentencesOnStores::thingWithoutVersions);
        doc.test("Promise 2", "NONE for others,", SentencesOnStores::noOtherKinds);
        doc.test("Promise 2", "NONE for others,", SentencesOnStores::noOtherOwners);
        doc.test("Promise 2", "or if there are 40.", SentencesOnStores::no41stThing);
    }

    private static PapersHeld fortyThings() {
        PapersHeld x = new PapersHeld();
        for (int t = 0; t < 40; t++) {
            x.thing(t % 6, t % 10);
        }
        return x;
    }

    private static void things0To39(Sentences s) {
        PapersHeld x = fortyThings();
        s.due("things", 40, x.about(0));
        s.due("version of thing 39", 0, x.version(39, 0, 0));
        s.due("version of thing 0", 1, x.version(0, 0, 0));
        s.due("thing of version 0", 39, x.versionOf(0, 0));
        Checks.hold(x, "k3", 0);
        Checks.hold(x, "k0", 0);
        s.due("kind of thing 39", 0, x.fit(0, 0));
        s.due("kind of thing 0", 1, x.fit(1, 0));
    }

    private static void allWhoEverWere(Sentences s) {
        PapersHeld x = new PapersHeld();
        x.thing(0, 0);
        s.due("the first alone", 1, x.about(60));
        for (int person = 0; person < 9; person++) {
            x.gives(person, person + 1);
        }
        s.due("the last one", 9, x.about(20));
        s.due("all", 1023, x.about(60));
        x.gives(9, 0);
        s.due("one who was before", 1023, x.about(60));
        s.due("is the owner again", 0, x.about(20));
    }

    private static void thingWithoutVersions(Sentences s) {
        PapersHeld x = new PapersHeld();
        s.due("the first", 0, x.thing(5, 9));
        s.due("another one of the same", 1, x.thing(5, 9));
        s.due("versions", 0, x.about(1));
        s.due("versionOf(0, 0)", -1, x.versionOf(0, 0));
    }

    private static void noOtherKinds(Sentences s) {
        PapersHeld x = Papers.small();
        String before = Papers.answers(x);
        for (int kind : Papers.outside(6)) {
            s.due("thing(" + kind + ", 0)", -1, x.thing(kind, 0));
        }
        s.unchanged("kinds", before, x);
        s.due("the next", 2, x.thing(0, 0));
    }

    private static void noOtherOwners(Sentences s) {
        PapersHeld x = Papers.small();
        String before = Papers.answers(x);
        for (int owner : Papers.outside(10)) {
            s.due("thing(0, " + owner + ")", -1, x.thing(0, owner));
        }
        s.unchanged("owners", before, x);
        s.due("the next", 2, x.thing(0, 0));
    }

    private static void no41stThing(Sentences s) {
        PapersHeld x = new PapersHeld();
        for (int t = 0; t < 40; t++) {
            s.due("thing " + t, t, x.thing(t % 6, t % 10));
        }
        String before = Papers.answers(x);
        s.due("the 41st", -1, x.thing(0, 0));
        s.due("the 42nd", -1, x.thing(5, 9));
        s.unchanged("more things", before, x);
    }

    private static void versions(Sentences doc) {
        doc.test("Terms", "VERSIONS 0 .. 119, numbered as they come: of a THING,", SentencesOnStores::versions0To119);
        doc.test("Terms", "with WORDS (a set),", SentencesOnStores::setsOfWords);
        doc.test("Terms", "its DAY (that of the clock when it came),", SentencesOnStores::dayItCame);
        doc.test("Terms", "COPIES: the STORES that have it (a set).", SentencesOnStores::setsOfStores);
        doc.test("Terms", "A VERSION with COPIES is THERE; one without has GONE (it may come back, II).",
                SentencesOnStores::thereAndGone);
        doc.test("Promise 3", "A VERSION of a THING with a COPY in a STORE: its number.", SentencesOnStores::oneCopy);
        doc.test("Promise 3", "NONE: others,", SentencesOnStores::noVersionOfOtherThings);
        doc.test("Promise 3", "NONE: others,", SentencesOnStores::noVersionOfOtherWords);
        doc.test("Promise 3", "NONE: others,", SentencesOnStores::noVersionInOtherStores);
        doc.test("Promise 3", "that is BROKEN,", SentencesOnStores::noVersionInBrokenStores);
        doc.test("Promise 3", "or there are 120.", SentencesOnStores::no121stVersion);
    }

    private static void versions0To119(Sentences s) {
        PapersHeld x = fortyThings();
        for (int v = 0; v < 120; v++) {
            s.due("version " + v, v, x.version(39 - v % 40, 0, 0));
        }
        s.due("thing of 0", 39, x.versionOf(0, 0));
        s.due("thing of 119", 0, x.versionOf(119, 0));
        s.due("versionOf(120, 0)", -1, x.versionOf(120, 0));
        s.due("copy of 119", true, x.copy(119, 5));
        s.due("move of 119", true, x.move(119, 0, 1));
        s.due("copies of 119", 34, x.versionOf(119, 3));
        s.due("copies of 118", 1, x.versionOf(118, 3));
    }

    private static void setsOfWords(Sentences s) {
        PapersHeld x = Papers.withWords(0, 1, (1 << 30) - 1);
        s.due("none", 0, x.versionOf(0, 1));
        s.due("one", 1, x.versionOf(1, 1));
        s.due("all thirty", (1 << 30) - 1, x.versionOf(2, 1));
    }

    private static void dayItCame(Sentences s) {
        PapersHeld x = Papers.withWords(0);
        Papers.toDay(x, 5000);
        x.version(0, 0, 0);
        s.due("on the first day", 0, x.versionOf(0, 2));
        s.due("on the last day", 5000, x.versionOf(1, 2));
    }

    private static void setsOfStores(Sentences s) {
        PapersHeld x = Papers.withWords(0);
        s.due("one", 1, x.versionOf(0, 3));
        for (int store = 1; store < 6; store++) {
            x.copy(0, store);
        }
        s.due("all six", 63, x.versionOf(0, 3));
        x.forget(0);
        x.days(1);
        s.due("none", 0, x.versionOf(0, 3));
    }

    private static void thereAndGone(Sentences s) {
        PapersHeld x = Papers.withWords(0);
        s.due("with one copy: there", 1, x.about(6));
        x.backup(0);
        x.forget(0);
        x.days(1);
        s.due("without: gone", 0, x.about(6));
        s.due("its number stays", 1, x.about(1));
        x.restore(0);
        s.due("it came back", 1, x.about(6));
        s.due("no new number", 1, x.about(1));
    }

    private static void oneCopy(Sentences s) {
        PapersHeld x = new PapersHeld();
        x.thing(0, 0);
        for (int store = 0; store < 6; store++) {
            s.due("in store " + store, store, x.version(0, 0, store));
            s.due("copies of it", 1 << store, x.versionOf(store, 3));
        }
    }

    private static void noVersionOfOtherThings(Sentences s) {
        PapersHeld x = Papers.small();
        String before = Papers.answers(x);
        for (int thing : Papers.outside(2)) {
            s.due("version(" + thing + ", 0, 0)", -1, x.version(thing, 0, 0));
        }
        s.unchanged("things", before, x);
        s.due("of the last", 3, x.version(1, 0, 0));
        s.due("of none", -1, new PapersHeld().version(0, 0, 0));
        s.due("of the 41st", -1, fortyThings().version(40, 0, 0));
    }

    private static void noVersionOfOtherWords(Sentences s) {
        PapersHeld x = Papers.small();
        String before = Papers.answers(x);
        for (int words : new int[] {1 << 30, (1 << 30) + 1, 1 << 31, -1, Integer.MAX_VALUE, -1 << 30}) {
            s.due("version(0, " + words + ", 0)", -1, x.version(0, words, 0));
        }
        s.unchanged("words", before, x);
    }

    private static void noVersionInOtherStores(Sentences s) {
        PapersHeld x = Papers.small();
        String before = Papers.answers(x);
        for (int store : Papers.outside(6)) {
            s.due("version(0, 0, " + store + ")", -1, x.version(0, 0, store));
        }
        s.unchanged("stores", before, x);
    }

    private static void noVersionInBrokenStores(Sentences s) {
        PapersHeld x = Papers.small();
        x.broken(0, true);
        x.broken(5, true);
        String before = Papers.answers(x);
        s.due("in 0", -1, x.version(0, 0, 0));
        s.due("in 5", -1, x.version(0, 0, 5));
        s.unchanged("broken stores", before, x);
        s.due("in a whole one", 3, x.version(0, 0, 4));
        x.broken(5, false);
        s.due("in 5, whole again", 4, x.version(0, 0, 5));
    }

    private static void no121stVersion(Sentences s) {
        PapersHeld x = new PapersHeld();
        x.thing(0, 0);
        for (int v = 0; v < 120; v++) {
            s.due("version " + v, v, x.version(0, v, v % 6));
        }
        s.due("the 121st", -1, x.version(0, 0, 0));
        s.due("versions", 120, x.about(1));
        s.due("there", 120, x.about(6));
        s.due("words of 119", 119, x.versionOf(119, 1));
        x.forget(0);
        x.days(1);
        s.due("gone ones keep their numbers", -1, x.version(0, 0, 0));
    }

    private static void owners(Sentences doc) {
        doc.test("Promise 4", "All THINGS of an OWNER have another one from now on: how many.", SentencesOnStores::allGiven);
        doc.test("Promise 4", "NONE: no such PERSONS,", SentencesOnStores::noOtherGivers);
        doc.test("Promise 4", "or the same.", SentencesOnStores::notToTheSame);
    }

    private static void allGiven(Sentences s) {
        PapersHeld x = new PapersHeld();
        s.due("no things at all", 0, x.gives(0, 9));
        for (int t = 0; t < 40; t++) {
            x.thing(0, 9);
        }
        s.due("none of 0", 0, x.gives(0, 9));
        s.due("all forty", 40, x.gives(9, 0));
        s.due("owner of 0", 0, x.about(20));
        s.due("owner of 39", 0, x.about(59));
        s.due("none is left", 0, x.gives(9, 1));
    }

    private static void noOtherGivers(Sentences s) {
        PapersHeld x = Papers.small();
        String before = Papers.answers(x);
        for (int person : Papers.outside(10)) {
            s.due("gives(" + person + ", 2)", -1, x.gives(person, 2));
            s.due("gives(2, " + person + ")", -1, x.gives(2, person));
            s.due("gives(" + person + ", " + person + ")", -1, x.gives(person, person));
        }
        s.unchanged("persons", before, x);
    }

    private static void notToTheSame(Sentences s) {
        PapersHeld x = Papers.small();
        String before = Papers.answers(x);
        for (int person = 0; person < 10; person++) {
            s.due("gives(" + person + ", " + person + ")", -1, x.gives(person, person));
        }
        s.unchanged("the same", before, x);
    }

    private static void copies(Sentences doc) {
        doc.test("Terms", "COPY: into another STORE;", SentencesOnStores::copyIntoAnother);
        doc.test("Promise 5", "A COPY comes into a STORE: true.", SentencesOnStores::copyIntoAnother);
        doc.test("Promise 5", "False: no such ones,", SentencesOnStores::noCopyOfOthers);
        doc.test("Promise 5", "the VERSION isn't THERE", SentencesOnStores::noCopyOfGoneOnes);
        doc.test("Promise 5", "or not in a STORE that isn't BROKEN,", SentencesOnStores::noCopyOutOfBrokenStores);
        doc.test("Promise 5", "that has it,", SentencesOnStores::noCopyWhereOneIs);
        doc.test("Promise 5", "or is BROKEN.", SentencesOnStores::noCopyIntoBrokenStores);
    }

    private static void copyIntoAnother(Sentences s) {
        PapersHeld x = Papers.withWords(0, 0);
        int copies = 1;
        for (int store = 1; store < 6; store++) {
            copies |= 1 << store;
            s.due("copy(0, " + store + ")", true, x.copy(0, store));
            s.due("copies", copies, x.versionOf(0, 3));
        }
        s.due("those of another version", 1, x.versionOf(1, 3));
    }

    private static void noCopyOfOthers(Sentences s) {
        PapersHeld x = Papers.small();
        String before = Papers.answers(x);
        for (int version : Papers.outside(3)) {
            s.due("copy(" + version + ", 5)", false, x.copy(version, 5));
        }
        for (int store : Papers.outside(6)) {
            s.due("copy(0, " + store + ")", false, x.copy(0, store));
        }
        s.unchanged("others", before, x);
    }

    private static void noCopyOfGoneOnes(Sentences s) {
        PapersHeld x = Papers.withWords(0);
        x.backup(0);
        x.forget(0);
        x.days(1);
        for (int store = 0; store < 6; store++) {
            s.due("copy(0, " + store + ")", false, x.copy(0, store));
        }
        s.due("it stays gone", 0, x.versionOf(0, 3));
        x.restore(0);
        s.due("it came back", true, x.copy(0, 1));
    }

    private static void noCopyOutOfBrokenStores(Sentences s) {
        PapersHeld x = Papers.withWords(0);
        x.copy(0, 1);
        x.broken(0, true);
        s.due("one of two is whole", true, x.copy(0, 2));
        x.broken(1, true);
        x.broken(2, true);
        s.due("none is whole", false, x.copy(0, 3));
        s.due("nothing came", 7, x.versionOf(0, 3));
        x.broken(2, false);
        s.due("one is whole again", true, x.copy(0, 3));
    }

    private static void noCopyWhereOneIs(Sentences s) {
        PapersHeld x = Papers.withWords(0);
        s.due("where it came", false, x.copy(0, 0));
        s.due("into another", true, x.copy(0, 5));
        s.due("there again", false, x.copy(0, 5));
        s.due("copies", 33, x.versionOf(0, 3));
    }

    private static void noCopyIntoBrokenStores(Sentences s) {
        PapersHeld x = Papers.withWords(0);
        x.broken(5, true);
        s.due("copy(0, 5)", false, x.copy(0, 5));
        s.due("nothing came", 1, x.versionOf(0, 3));
        x.broken(5, false);
        s.due("whole again", true, x.copy(0, 5));
    }

    private static void moves(Sentences doc) {
        doc.test("Terms", "MOVE: out of one, into another one (both not BROKEN;", SentencesOnStores::moveIntoAnother);
        doc.test("Terms", "it may be there: then it goes out of the one alone).", SentencesOnStores::moveToWhereItIs);
        doc.test("Promise 6", "MOVE: true.", SentencesOnStores::moveIntoAnother);
        doc.test("Promise 6", "False: no such ones,", SentencesOnStores::noMoveOfOthers);
        doc.test("Promise 6", "the same,", SentencesOnStores::noMoveToTheSame);
        doc.test("Promise 6", "one of them is BROKEN,", SentencesOnStores::noMoveWithBrokenStores);
        doc.test("Promise 6", "or the first hasn't it.", SentencesOnStores::noMoveOutOfWhereItIsnt);
    }

    private static void moveIntoAnother(Sentences s) {
        PapersHeld x = Papers.withWords(0, 0);
        x.broken(3, true);
        s.due("from 0 to 5", true, x.move(0, 0, 5));
        s.due("copies", 32, x.versionOf(0, 3));
        s.due("from 5 to 0", true, x.move(0, 5, 0));
        s.due("copies", 1, x.versionOf(0, 3));
        s.due("those of another version", 1, x.versionOf(1, 3));
        s.due("versions", 2, x.about(1));
    }

    private static void moveToWhereItIs(Sentences s) {
        PapersHeld x = Papers.withWords(0);
        x.copy(0, 5);
        x.copy(0, 3);
        s.due("from 0 to 5", true, x.move(0, 0, 5));
        s.due("copies", 40, x.versionOf(0, 3));
        s.due("from 3 to 5", true, x.move(0, 3, 5));
        s.due("the last", 32, x.versionOf(0, 3));
    }

    private static void noMoveOfOthers(Sentences s) {
        PapersHeld x = Papers.small();
        String before = Papers.answers(x);
        for (int version : Papers.outside(3)) {
            s.due("move(" + version + ", 0, 1)", false, x.move(version, 0, 1));
        }
        for (int store : Papers.outside(6)) {
            s.due("move(0, " + store + ", 1)", false, x.move(0, store, 1));
            s.due("move(0, 0, " + store + ")", false, x.move(0, 0, store));
        }
        s.unchanged("others", before, x);
    }

    private static void noMoveToTheSame(Sentences s) {
        PapersHeld x = Papers.small();
        String before = Papers.answers(x);
        for (int store = 0; store < 6; store++) {
            s.due("move(0, " + store + ", " + store + ")", false, x.move(0, store, store));
        }
        s.unchanged("the same", before, x);
    }

    private static void noMoveWithBrokenStores(Sentences s) {
        PapersHeld x = Papers.withWords(0);
        x.copy(0, 1);
        x.broken(0, true);
        s.due("out of a broken one", false, x.move(0, 0, 2));
        s.due("out of a broken one, to where it is", false, x.move(0, 0, 1));
        s.due("into a broken one that has it", false, x.move(0, 1, 0));
        x.broken(2, true);
        s.due("into a broken one", false, x.move(0, 1, 2));
        s.due("both are broken", false, x.move(0, 0, 2));
        s.due("copies", 3, x.versionOf(0, 3));
        x.broken(0, false);
        s.due("both are whole", true, x.move(0, 0, 3));
    }

    private static void noMoveOutOfWhereItIsnt(Sentences s) {
        PapersHeld x = Papers.withWords(0);
        s.due("it is elsewhere", false, x.move(0, 1, 2));
        s.due("it is in the other", false, x.move(0, 1, 0));
        s.due("copies", 1, x.versionOf(0, 3));
        x.forget(0);
        x.days(1);
        s.due("it has gone", false, x.move(0, 0, 1));
        s.due("it stays gone", 0, x.versionOf(0, 3));
    }

    private static void brokenStores(Sentences doc) {
        doc.test("Promise 7", "A STORE is BROKEN, or not: true.", SentencesOnStores::brokenOrNot);
        doc.test("Promise 7", "False: there is none such.", SentencesOnStores::noOtherBrokenStores);
    }

    private static void brokenOrNot(Sentences s) {
        PapersHeld x = new PapersHeld();
        s.due("whole already", true, x.broken(0, false));
        s.due("none", 0, x.about(10));
        for (int store = 0; store < 6; store++) {
            s.due("broken", true, x.broken(store, true));
        }
        s.due("all", 63, x.about(10));
        s.due("broken already", true, x.broken(5, true));
        s.due("all still", 63, x.about(10));
        s.due("whole", true, x.broken(5, false));
        s.due("but one", 31, x.about(10));
    }

    private static void noOtherBrokenStores(Sentences s) {
        PapersHeld x = Papers.small();
        x.broken(3, true);
        String before = Papers.answers(x);
        for (int store : Papers.outside(6)) {
            s.due("broken(" + store + ", true)", false, x.broken(store, true));
            s.due("broken(" + store + ", false)", false, x.broken(store, false));
        }
        s.due("broken(35, false)", false, x.broken(35, false));
        s.unchanged("others", before, x);
    }

    private static void backups(Sentences doc) {
        doc.test("Terms", "A BACKUP of a STORE (up to 10):", SentencesOnStores::tenBackups);
        doc.test("Terms", "which VERSIONS have a COPY there;", SentencesOnStores::thoseThatHaveACopyThen);
        doc.test("Terms", "it is RESTORED: these have a COPY there again", SentencesOnStores::copiesComeBack);
        doc.test("Terms", "(if it isn't BROKEN).", SentencesOnStores::noRestoreIntoBrokenStores);
        doc.test("Promise 8", "A BACKUP: its number.", SentencesOnStores::tenBackups);
        doc.test("Promise 8", "NONE: no such STORE,", SentencesOnStores::noBackupOfOtherStores);
        doc.test("Promise 8", "it is BROKEN,", SentencesOnStores::noBackupOfBrokenStores);
        doc.test("Promise 8", "or there are 10.", SentencesOnStores::no11thBackup);
        doc.test("Promise 9", "It is RESTORED: how many COPIES came.", SentencesOnStores::howManyCame);
        doc.test("Promise 9", "NONE: no such BACKUP,", SentencesOnStores::noOtherBackups);
        doc.test("Promise 9", "or its STORE is BROKEN.", SentencesOnStores::noRestoreIntoBrokenStores);
    }

    /** Of STORES 0 and 1 by turns; VERSION b comes into STORE 0 right ahead of BACKUP b. */
    private static PapersHeld withTenBackups(Sentences s) {
        PapersHeld x = new PapersHeld();
        x.thing(0, 0);
        for (int b = 0; b < 10; b++) {
            x.version(0, 0, 0);
            s.due("backup " + b, b, x.backup(b % 2));
        }
        x.forget(0);
        s.due("all go", 10, x.days(1));
        return x;
    }

    private static void tenBackups(Sentences s) {
        PapersHeld x = withTenBackups(s);
        for (int b = 9; b >= 0; b--) {
            s.due("restore(" + b + ")", b % 2 == 0 ? b + 1 : 0, x.restore(b));
            x.days(1);
        }
    }

    private static void no11thBackup(Sentences s) {
        PapersHeld x = withTenBackups(s);
        s.due("the 11th", -1, x.backup(0));
        s.due("the 12th", -1, x.backup(5));
        s.due("restore(10)", -1, x.restore(10));
        s.due("the tenth is as it was", 0, x.restore(9));
        s.due("the ninth too", 9, x.restore(8));
        s.due("and the first", 0, x.restore(0));
    }

    private static void thoseThatHaveACopyThen(Sentences s) {
        PapersHeld x = Papers.withWords(0, 0);
        x.move(1, 0, 1);
        x.backup(0);
        x.version(0, 0, 0);
        x.copy(1, 0);
        x.forget(0);
        x.days(1);
        s.due("one came", 1, x.restore(0));
        s.due("it had a copy there", 1, x.versionOf(0, 3));
        s.due("it came there later", 0, x.versionOf(1, 3));
        s.due("it was not yet", 0, x.versionOf(2, 3));
    }

    private static void copiesComeBack(Sentences s) {
        PapersHeld x = Papers.withWords(0, 0, 0);
        x.copy(0, 1);
        x.backup(0);
        x.move(1, 0, 2);
        x.rule(0, 0);
        x.broken(2, true);
        x.days(1);
        s.due("copies of 1 ahead of it", 4, x.versionOf(1, 3));
        x.restore(0);
        s.due("not into the other store", 1, x.versionOf(0, 3));
        s.due("beside another copy", 5, x.versionOf(1, 3));
        s.due("alone", 1, x.versionOf(2, 3));
        s.due("its day is the old one", 0, x.versionOf(2, 2));
    }

    private static void noBackupOfOtherStores(Sentences s) {
        PapersHeld x = Papers.small();
        for (int store : Papers.outside(6)) {
            s.due("backup(" + store + ")", -1, x.backup(store));
        }
        s.due("no backup came", -1, x.restore(1));
        s.due("the next", 1, x.backup(0));
    }

    private static void noBackupOfBrokenStores(Sentences s) {
        PapersHeld x = new PapersHeld();
        x.broken(0, true);
        x.broken(5, true);
        s.due("backup(0)", -1, x.backup(0));
        s.due("backup(5)", -1, x.backup(5));
        s.due("no backup came", -1, x.restore(0));
        x.broken(5, false);
        s.due("whole again", 0, x.backup(5));
    }

    private static void howManyCame(Sentences s) {
        PapersHeld x = new PapersHeld();
        x.backup(0);
        x.thing(0, 0);
        for (int v = 0; v < 120; v++) {
            x.version(0, 0, 5);
        }
        x.backup(5);
        s.due("of an empty one", 0, x.restore(0));
        s.due("all are there", 0, x.restore(1));
        x.move(119, 5, 0);
        s.due("one came", 1, x.restore(1));
        s.due("copies of it", 33, x.versionOf(119, 3));
        x.forget(0);
        x.days(1);
        s.due("all came", 120, x.restore(1));
        s.due("copies of it", 32, x.versionOf(119, 3));
        s.due("again", 0, x.restore(1));
    }

    private static void noOtherBackups(Sentences s) {
        PapersHeld x = Papers.small();
        x.move(0, 0, 3);
        String before = Papers.answers(x);
        for (int backup : Papers.outside(1)) {
            s.due("restore(" + backup + ")", -1, x.restore(backup));
        }
        s.unchanged("others", before, x);
        s.due("restore(0)", 1, x.restore(0));
    }

    private static void noRestoreIntoBrokenStores(Sentences s) {
        PapersHeld x = Papers.small();
        x.backup(1);
        x.move(0, 0, 3);
        x.move(1, 1, 3);
        x.broken(0, true);
        String before = Papers.answers(x);
        s.due("its store is broken", -1, x.restore(0));
        s.unchanged("restore(0)", before, x);
        s.due("another store", 1, x.restore(1));
        x.broken(0, false);
        s.due("whole again", 1, x.restore(0));
    }
}
