/** Sentences of promises 10, 11 and 13, and of the terms, on the tape, TOKENS, FAULTS and what FITS. */
final class SentencesOnTexts {
    private static final String TWELVE_NOTS = "!!!!!!!!!!!!";
    private static final String TWELVE_BRACKETS = "((((((((((((";
    private static final String TWELVE_CLOSED = "))))))))))))";
    private static final String TWELVE_OF_BOTH = "!(!(!(!(!(!(";

    private SentencesOnTexts() {
    }

    static void all(Sentences doc) {
        tape(doc);
        tokens(doc);
        grammar(doc);
        places(doc);
        faults(doc);
        fitting(doc);
        latestText(doc);
    }

    /** The text is read without a FAULT. */
    private static void right(Sentences s, String text) {
        faulty(s, text, 0, -1);
    }

    private static void faulty(Sentences s, String text, int fault, int place) {
        PapersHeld x = new PapersHeld();
        s.due("hold of '" + text + "'", fault == 0 ? 0 : -1, Checks.hold(x, text, 0));
        s.due("fault of '" + text + "'", fault, x.fault(0));
        s.due("place of '" + text + "'", place, x.fault(1));
        s.due("holds behind '" + text + "'", fault == 0 ? 1 : 0, x.about(3));
    }

    /** Whether a text FITS a VERSION with these WORDS (of KIND 0, OWNER 0, DAY 0). */
    private static void fits(Sentences s, String text, int words, boolean want) {
        PapersHeld x = Papers.withWords(words);
        s.due("hold of '" + text + "'", 0, Checks.hold(x, text, 0));
        s.due("'" + text + "' fits words " + words, want ? 1 : 0, x.fits(0));
    }

    private static void tape(Sentences doc) {
        doc.test("Promise 10", "Twenty bytes come behind the tape, the highest of a first: how many it has.",
                SentencesOnTexts::twentyBytesInTheirOrder);
        doc.test("Promise 10", "Twenty bytes come behind the tape, the highest of a first: how many it has.",
                SentencesOnTexts::behindWhatIsThere);
        doc.test("Promise 10", "NONE, and none come, if there would be more than 60.", SentencesOnTexts::noMoreThanSixty);
        doc.test("Promise 11", "The tape has its first n bytes alone: n.", SentencesOnTexts::firstBytesAlone);
        doc.test("Promise 11", "NONE, and nothing is done, if it has not so many,", SentencesOnTexts::notSoMany);
        doc.test("Promise 11", "or n is below 0.", SentencesOnTexts::notBelowZero);
    }

    /** A byte that is no TOKEN is put at each place among blanks: its FAULT tells where it came. */
    private static void twentyBytesInTheirOrder(Sentences s) {
        for (int place = 0; place < 20; place++) {
            // 160 is a blank but for its highest bit.
            String text = " ".repeat(place) + "\u00a0" + " ".repeat(19 - place);
            PapersHeld x = new PapersHeld();
            s.due("feed", 20, x.feed(Checks.four(text, 0), Checks.four(text, 4), Checks.four(text, 8), Checks.four(text, 12),
                    Checks.four(text, 16)));
            x.hold(0);
            s.due("fault of a byte at " + place, 1, x.fault(0));
            s.due("place of a byte at " + place, place, x.fault(1));
        }
    }

    private static void behindWhatIsThere(Sentences s) {
        PapersHeld x = Papers.withWords(1 << 12);
        int blanks = 0x20202020;
        s.due("the first twenty", 20, x.feed(blanks, blanks, blanks, blanks, blanks));
        s.due("with w1 at their end", 40, x.feed(blanks, blanks, blanks, blanks, 0x20207731));
        s.due("with 2 at their start", 60, x.feed(0x32202020, blanks, blanks, blanks, blanks));
        s.due("bytes", 60, x.about(9));
        s.due("the text is w12", 0, x.hold(0));
        s.due("it fits", 1, x.fits(0));
    }

    private static void noMoreThanSixty(Sentences s) {
        for (int length = 41; length <= 60; length++) {
            PapersHeld x = Papers.withWords(1 << 2);
            Checks.tape(x, " ".repeat(length - 2) + "w2");
            s.due("feed behind " + length, -1, x.feed(-1, -1, -1, -1, -1));
            s.due("bytes", length, x.about(9));
            s.due("none came: the text is right", 0, x.hold(0));
            s.due("and is w2", 1, x.fits(0));
        }
        for (int length = 0; length <= 40; length++) {
            PapersHeld x = new PapersHeld();
            Checks.tape(x, " ".repeat(length));
            s.due("feed behind " + length, length + 20, x.feed(-1, -1, -1, -1, -1));
        }
    }

    private static void firstBytesAlone(Sentences s) {
        PapersHeld x = Papers.withWords(2, 6);
        s.due("none of none", 0, x.end(0));
        x.feed(Checks.four("w1&w", 0), Checks.four("30((", 0), 0, 0, 0);
        s.due("all", 20, x.end(20));
        s.due("all but one", 19, x.end(19));
        s.due("two", 2, x.end(2));
        s.due("bytes", 2, x.about(9));
        x.feed(Checks.four("&w2 ", 0), 0x20202020, 0x20202020, 0x20202020, 0x20202020);
        s.due("w1&w2", 0, x.hold(0));
        s.due("fits", 1, x.fits(0));
        x.feed(-1, -1, -1, -1, -1);
        s.due("none", 0, x.end(0));
        s.due("bytes", 0, x.about(9));
    }

    private static void notSoMany(Sentences s) {
        PapersHeld x = Papers.small();
        String before = Papers.answers(x);
        for (int n : Papers.tooLarge(6)) {
            s.due("end(" + n + ") of five bytes", -1, x.end(n));
        }
        s.unchanged("too many", before, x);
        s.due("the text is as it was", 1, x.hold(0));
        s.due("w1|w0 fits", 3, x.fits(1));
        s.due("end(1) of none", -1, x.end(1));
        Checks.tape(x, " ".repeat(60));
        s.due("end(61) of sixty", -1, x.end(61));
        s.due("bytes", 60, x.about(9));
    }

    private static void notBelowZero(Sentences s) {
        PapersHeld x = Papers.small();
        String before = Papers.answers(x);
        for (int n : Papers.TOO_SMALL) {
            s.due("end(" + n + ")", -1, x.end(n));
        }
        s.unchanged("below 0", before, x);
        s.due("the text is as it was", 1, x.hold(0));
        s.due("w1|w0 fits", 3, x.fits(1));
    }

    private static void tokens(Sentences doc) {
        doc.test("Terms", "TOKENS, blanks (32) aside:", SentencesOnTexts::blanksAside);
        doc.test("Terms", "TOKENS, blanks (32) aside:", SentencesOnTexts::otherBytesAreNoBlanks);
        doc.test("Terms", "w, p, k each with a NUMBER right behind it", SentencesOnTexts::numberRightBehind);
        doc.test("Terms", "(digits one behind the other,", SentencesOnTexts::digitsOneBehindTheOther);
        doc.test("Terms", "a WORD, PERSON, KIND),", SentencesOnTexts::leastAndGreatestNumbers);
        doc.test("Terms", "d with a NUMBER right behind it, then - and a NUMBER right behind that",
                SentencesOnTexts::daysWithoutBlanks);
        doc.test("Terms", "(a DAY, one not below it; 0 .. 5000), ! & | ( ).", SentencesOnTexts::leastAndGreatestDays);
    }

    private static void blanksAside(Sentences s) {
        right(s, " w1");
        right(s, "w1 ");
        right(s, "  !  (  w1  &  p1  |  d1-2  )  ");
        right(s, " ".repeat(58) + "w1");
        right(s, "w1" + " ".repeat(58));
        fits(s, " ( w0 | w1 ) & ! w2 ", 2, true);
        fits(s, " ( w0 | w1 ) & ! w2 ", 6, false);
    }

    private static void otherBytesAreNoBlanks(Sentences s) {
        for (int other : new int[] {0, 9, 10, 11, 12, 13, 31, 127, 133, 160, 255}) {
            faulty(s, "w1" + (char) other, 1, 2);
            faulty(s, (char) other + "w1", 1, 0);
        }
    }

    private static void numberRightBehind(Sentences s) {
        for (String letter : new String[] {"w", "p", "k"}) {
            right(s, letter + "1");
            faulty(s, letter + " 1", 1, 0);
            faulty(s, letter + "(1)", 1, 0);
            faulty(s, letter + "-1", 1, 0);
        }
    }

    private static void digitsOneBehindTheOther(Sentences s) {
        fits(s, "w12", 1 << 12, true);
        fits(s, "w12", 1 << 1 | 1 << 2, false);
        fits(s, "w0000000012", 1 << 12, true);
        fits(s, "w" + "0".repeat(57) + "29", 1 << 29, true);
        faulty(s, "w1 2", 1, 3);
        faulty(s, "w/", 1, 0);
        faulty(s, "w:", 1, 0);
        faulty(s, "w1/", 1, 2);
        faulty(s, "w1:", 1, 2);
    }

    private static void leastAndGreatestNumbers(Sentences s) {
        for (String token : new String[] {"w0", "w29", "p0", "p9", "k0", "k5"}) {
            right(s, token);
        }
        faulty(s, "w30", 2, 0);
        faulty(s, "p10", 2, 0);
        faulty(s, "k6", 2, 0);
        fits(s, "w0", 1, true);
        fits(s, "w29", 1 << 29, true);
    }

    private static void daysWithoutBlanks(Sentences s) {
        right(s, "d1-2");
        right(s, "d01-0002");
        faulty(s, "d 1-2", 1, 0);
        faulty(s, "d1 -2", 1, 0);
        faulty(s, "d1- 2", 1, 0);
        faulty(s, "d1--2", 1, 0);
        faulty(s, "d1&2", 1, 0);
    }

    private static void leastAndGreatestDays(Sentences s) {
        right(s, "d0-0");
        right(s, "d0-5000");
        right(s, "d5000-5000");
        right(s, "d4999-5000");
        faulty(s, "d1-0", 2, 0);
        faulty(s, "d5000-4999", 2, 0);
        faulty(s, "d0-5001", 2, 0);
        faulty(s, "d5000-5001", 2, 0);
        faulty(s, "d5001-5001", 2, 0);
        faulty(s, "d5001-5000", 2, 0);
    }

    private static void grammar(Sentences doc) {
        doc.test("Terms", "EITHER: BOTH {| BOTH}.", SentencesOnTexts::eithers);
        doc.test("Terms", "BOTH: ONE {& ONE}.", SentencesOnTexts::boths);
        doc.test("Terms", "ONE: ! ONE, or ( EITHER ), or one of w, p, k, d.", SentencesOnTexts::ones);
        doc.test("Terms", "The text is one EITHER.", SentencesOnTexts::oneEither);
    }

    private static void eithers(Sentences s) {
        right(s, "w1");
        right(s, "w1|w2");
        right(s, "w1|".repeat(19) + "w2");
        faulty(s, "|w1", 1, 0);
        faulty(s, "w1|", 1, 3);
        faulty(s, "w1||w2", 1, 3);
        fits(s, "w0|w1&w2", 1, true);
        fits(s, "w0&w1|w2", 4, true);
        fits(s, "w0|w1&w2", 2, false);
    }

    private static void boths(Sentences s) {
        right(s, "w1&w2");
        right(s, "w1&".repeat(19) + "w2");
        faulty(s, "&w1", 1, 0);
        faulty(s, "w1&", 1, 3);
        faulty(s, "w1&&w2", 1, 3);
        faulty(s, "w1&|w2", 1, 3);
        faulty(s, "w1|&w2", 1, 3);
        fits(s, "!w0&w1", 0, false);
        fits(s, "!w0&w1", 2, true);
    }

    private static void ones(Sentences s) {
        right(s, "!w1");
        right(s, "!!(w1)");
        right(s, "(w1|w2&w3)");
        right(s, "((w1))");
        right(s, "w1&p1&k1&d1-1");
        faulty(s, "!", 1, 1);
        faulty(s, "!&w1", 1, 1);
        faulty(s, "()", 1, 1);
        faulty(s, "(w1", 1, 3);
        faulty(s, "(w1&)", 1, 4);
        faulty(s, "(!)", 1, 2);
    }

    private static void oneEither(Sentences s) {
        faulty(s, "", 1, 0);
        faulty(s, " ", 1, 1);
        faulty(s, "w1 w2", 1, 3);
        faulty(s, "w1w2", 1, 2);
        faulty(s, "(w1)(w2)", 1, 4);
        faulty(s, "(w1)w2", 1, 4);
        faulty(s, "w1(w2)", 1, 2);
        faulty(s, "w1!w2", 1, 2);
        faulty(s, "w1)", 1, 2);
        faulty(s, "(w1))", 1, 4);
    }

    private static void places(Sentences doc) {
        doc.test("Terms", "FAULTS, the first as TOKENS are come to,", SentencesOnTexts::firstFault);
        doc.test("Terms", "at the TOKEN's first byte", SentencesOnTexts::firstByte);
        doc.test("Terms", "(of the end at the length),", SentencesOnTexts::endAtTheLength);
        doc.test("Terms", "of one the least:", SentencesOnTexts::leastOfOne);
    }

    private static void firstFault(Sentences s) {
        faulty(s, "w30&p", 2, 0);
        faulty(s, "w1&p10&)", 2, 3);
        faulty(s, "w1&)&p10", 1, 3);
        faulty(s, "w30" + TWELVE_NOTS + "!", 2, 0);
        faulty(s, TWELVE_NOTS + "!w30", 3, 12);
        faulty(s, "(w30", 2, 1);
    }

    private static void firstByte(Sentences s) {
        faulty(s, "w30", 2, 0);
        faulty(s, "  w30", 2, 2);
        faulty(s, "w1 & d9-8", 2, 5);
        faulty(s, "w1 & d9-", 1, 5);
        faulty(s, "w1 & d9", 1, 5);
        faulty(s, "w1 & p", 1, 5);
        faulty(s, "w1|".repeat(19) + "k6 ", 2, 57);
        faulty(s, "w1|".repeat(19) + "w1)", 1, 59);
    }

    private static void endAtTheLength(Sentences s) {
        faulty(s, "", 1, 0);
        faulty(s, "   ", 1, 3);
        faulty(s, "w1&", 1, 3);
        faulty(s, "w1& ", 1, 4);
        faulty(s, "(w1   ", 1, 6);
        faulty(s, " ".repeat(60), 1, 60);
        faulty(s, "w1|".repeat(20), 1, 60);
        faulty(s, "(" + "w1|".repeat(19) + "w1", 1, 60);
    }

    private static void leastOfOne(Sentences s) {
        faulty(s, "w1 w30", 1, 3);
        faulty(s, "w1 d9-8", 1, 3);
        faulty(s, "d5001", 1, 0);
        faulty(s, "d5001-", 1, 0);
        faulty(s, TWELVE_BRACKETS + "w1!", 1, 14);
        faulty(s, TWELVE_BRACKETS + "w1(", 1, 14);
    }

    private static void faults(Sentences doc) {
        doc.test("Terms", "1 it can't stand there,", SentencesOnTexts::cantStandThere);
        doc.test("Terms", "or is none (a letter without its NUMBER, - without one).", SentencesOnTexts::noToken);
        doc.test("Terms", "2 a NUMBER that isn't one of those told.", SentencesOnTexts::numbersTooLarge);
        doc.test("Terms", "2 a NUMBER that isn't one of those told.", SentencesOnTexts::numbersThatWrapAround);
        doc.test("Terms", "3 the 13th of ! and ( that are open around one another", SentencesOnTexts::thirteenOpen);
        doc.test("Terms", "(at it: a ! is open till its ONE is over).", SentencesOnTexts::openTillItsOneIsOver);
    }

    private static void cantStandThere(Sentences s) {
        for (String token : new String[] {"&", "|", ")"}) {
            faulty(s, token, 1, 0);
            faulty(s, "!" + token, 1, 1);
            faulty(s, "(" + token, 1, 1);
            faulty(s, "w1&" + token, 1, 3);
            faulty(s, "w1|" + token, 1, 3);
        }
        for (String token : new String[] {"!", "(", "w1", "p1", "k1", "d1-1"}) {
            faulty(s, "w1 " + token, 1, 3);
            faulty(s, "(w1) " + token, 1, 5);
        }
        faulty(s, "w1 )", 1, 3);
    }

    private static void noToken(Sentences s) {
        for (String text : new String[] {"w", "p", "k", "d", "d5", "d5-", "d-5", "-", "-5", "5", "x", "W1", "P1", "K1", "D1-1", "~",
            "^", "\"", "#", "*", "+", ",", "\0", "\u00f7"}) {
            faulty(s, text, 1, 0);
            faulty(s, "w1&" + text, 1, 3);
        }
        faulty(s, "d1-2-3", 1, 4);
        faulty(s, "w1-2", 1, 2);
    }

    private static void numbersTooLarge(Sentences s) {
        for (String text : new String[] {"w30", "w31", "w32", "w99", "p10", "p32", "k6", "k10", "d0-5001", "d5001-5001", "d9-8"}) {
            faulty(s, text, 2, 0);
        }
    }

    private static void numbersThatWrapAround(Sentences s) {
        String[] numbers = {"256", "65536", "2147483648", "4294967296", "4294967297", "8589934592", "18446744073709551616",
            "18446744073709551617", "9".repeat(55)};
        for (String number : numbers) {
            faulty(s, "w" + number, 2, 0);
            faulty(s, "p" + number, 2, 0);
            faulty(s, "k" + number, 2, 0);
        }
        faulty(s, "d0-4294967296", 2, 0);
        faulty(s, "d4294967296-5", 2, 0);
        faulty(s, "d4294967296-4294967297", 2, 0);
        faulty(s, "d1-18446744073709551617", 2, 0);
        faulty(s, "d0-" + "9".repeat(57), 2, 0);
    }

    private static void thirteenOpen(Sentences s) {
        right(s, TWELVE_NOTS + "w1");
        right(s, TWELVE_BRACKETS + "w1" + TWELVE_CLOSED);
        right(s, TWELVE_OF_BOTH + "w1))))))");
        faulty(s, TWELVE_NOTS + "!w1", 3, 12);
        faulty(s, TWELVE_NOTS + "(w1)", 3, 12);
        faulty(s, TWELVE_BRACKETS + "(w1" + TWELVE_CLOSED + ")", 3, 12);
        faulty(s, TWELVE_BRACKETS + "!w1" + TWELVE_CLOSED, 3, 12);
        faulty(s, TWELVE_OF_BOTH + "  !w1))))))", 3, 14);
        faulty(s, "!".repeat(60), 3, 12);
        faulty(s, "(".repeat(60), 3, 12);
        faulty(s, TWELVE_BRACKETS + "w1&" + "(", 3, 15);
    }

    private static void openTillItsOneIsOver(Sentences s) {
        right(s, TWELVE_NOTS + "w1&" + TWELVE_NOTS + "w1");
        right(s, TWELVE_NOTS + "w1|!w1");
        right(s, TWELVE_BRACKETS + "w1" + TWELVE_CLOSED + "|(w2)");
        right(s, TWELVE_OF_BOTH + "w1)&!w1)))))");
        right(s, "(!!!!!!!!!!!w1&!!!!!!!!!!!w1)");
        faulty(s, "(!!!!!!!!!!!w1&!!!!!!!!!!!!w1)", 3, 26);
        faulty(s, "!(!!!!!!!!!!w1&!!!!!!!!!!!w1)", 3, 25);
        faulty(s, TWELVE_NOTS + "w1&" + TWELVE_NOTS + "!w1", 3, 27);
        faulty(s, TWELVE_OF_BOTH + "w1)&(!w1", 1, 20);
        faulty(s, TWELVE_OF_BOTH + "w1)&(!!w1", 3, 18);
    }

    private static void fitting(Sentences doc) {
        doc.test("Terms", "A VERSION FITS: w: it has that WORD;", SentencesOnTexts::fitsByWord);
        doc.test("Terms", "p: that PERSON is among the OWNERS of its THING;", SentencesOnTexts::fitsByPerson);
        doc.test("Terms", "k: its THING's KIND;", SentencesOnTexts::fitsByKind);
        doc.test("Terms", "d: its DAY is one of these, both too;", SentencesOnTexts::fitsByDay);
        doc.test("Terms", "! & | as they say.", SentencesOnTexts::fitsBySigns);
    }

    private static void fitsByWord(Sentences s) {
        for (int word = 0; word < 30; word++) {
            fits(s, "w" + word, 1 << word, true);
            fits(s, "w" + word, (1 << 30) - 1 - (1 << word), false);
        }
        fits(s, "w0", 0, false);
    }

    private static void fitsByPerson(Sentences s) {
        for (int person = 0; person < 10; person++) {
            PapersHeld x = new PapersHeld();
            x.thing(0, person);
            x.version(0, 0, 0);
            Checks.hold(x, "p" + person, 0);
            Checks.hold(x, "!p" + (person + 1) % 10, 0);
            s.due("p" + person, 1, x.fits(0));
            s.due("not another", 1, x.fits(1));
            x.gives(person, (person + 1) % 10);
            s.due("one who was", 1, x.fits(0));
            s.due("one who is", 0, x.fits(1));
        }
    }

    private static void fitsByKind(Sentences s) {
        for (int kind = 0; kind < 6; kind++) {
            PapersHeld x = new PapersHeld();
            x.thing(kind, 0);
            x.version(0, 0, 0);
            Checks.hold(x, "k" + kind, 0);
            Checks.hold(x, "!k" + (kind + 1) % 6 + "&!k" + (kind + 5) % 6, 0);
            s.due("k" + kind, 1, x.fits(0));
            s.due("not its neighbours", 1, x.fits(1));
        }
    }

    private static void fitsByDay(Sentences s) {
        PapersHeld x = Papers.withWords(0);
        Papers.toDay(x, 4999);
        x.version(0, 0, 0);
        x.days(1);
        x.version(0, 0, 0);
        String[] texts = {"d0-0", "d0-4998", "d1-4998", "d4999-4999", "d1-4999", "d5000-5000", "d4999-5000", "d0-5000", "d0-4999"};
        int[] want = {1, 1, 0, 1, 1, 1, 2, 3, 2};
        int[] first = {0, 0, -1, 1, 1, 2, 1, 0, 0};
        for (int h = 0; h < texts.length; h++) {
            s.due("hold of " + texts[h], h, Checks.hold(x, texts[h], 5000));
            s.due("fits of " + texts[h], want[h], x.fits(h));
            s.due("the first of " + texts[h], first[h], x.fit(h, 0));
        }
    }

    private static void fitsBySigns(Sentences s) {
        for (int words = 0; words < 8; words++) {
            boolean a = (words & 1) != 0;
            boolean b = (words & 2) != 0;
            boolean c = (words & 4) != 0;
            fits(s, "!w0", words, !a);
            fits(s, "!!w0", words, a);
            fits(s, "w0&w1", words, a && b);
            fits(s, "w0|w1", words, a || b);
            fits(s, "w0|w1&w2", words, a || b && c);
            fits(s, "w0&w1|w2", words, a && b || c);
            fits(s, "(w0|w1)&w2", words, (a || b) && c);
            fits(s, "!(w0|w1)&w2", words, !(a || b) && c);
            fits(s, "!w0|w1&!w2", words, !a || b && !c);
            fits(s, "!(!w0&(w1|!w2))", words, a || !(b || !c));
        }
        fits(s, "w1|(w1|(w1|(w1|(w1|(w1|(w1|(w1|(w1|(w1|(w1|(w0)))))))))))", 1, true);
        fits(s, "w0&(w0&(w0&(w0&(w0&(w0&(w0&(w0&(w0&(w0&(w0&(w1)))))))))))", 1, false);
        fits(s, "w0&(w1&(w2&w3))", 15, true);
        fits(s, "w0&(w1&(w2&w3))", 14, false);
        fits(s, "!(w0&(w1|w2&(w3|w4)))", 9, true);
        fits(s, "!(w0&(w1|w2&(w3|w4)))", 13, false);
        fits(s, "w0&(w0&(w0&(w0&(w0&(w0&(w0&(w0&(w0&(w0&(w0&(w1)))))))))))", 3, true);
        fits(s, "w1|".repeat(19) + "w00", 1, true);
        fits(s, "w1|".repeat(19) + "w00", 4, false);
        fits(s, "w0&".repeat(19) + "w01", 1, false);
        fits(s, "w0&".repeat(19) + "w01", 3, true);
    }

    private static void latestText(Sentences doc) {
        doc.test("Promise 13", "Of the latest text:", SentencesOnTexts::ofTheLatestText);
        doc.test("Promise 13", "0 its FAULT (0 without),", SentencesOnTexts::itsFault);
        doc.test("Promise 13", "1 its place (NONE without).", SentencesOnTexts::itsPlace);
        doc.test("Promise 13", "NONE for others,", SentencesOnTexts::noOtherFaults);
        doc.test("Promise 13", "and ahead of any.", SentencesOnTexts::aheadOfAny);
    }

    private static void ofTheLatestText(Sentences s) {
        PapersHeld x = new PapersHeld();
        Checks.hold(x, "w1|w30", 0);
        s.due("hold's", 3, x.fault(1));
        Checks.hold(x, "w1", 0);
        s.due("hold's, without", 0, x.fault(0));
        Checks.tape(x, "w1&");
        s.due("not that of the tape", 0, x.fault(0));
        x.touch(0, 0);
        s.due("touch's", 1, x.fault(0));
        Checks.tape(x, " w30");
        x.change(0);
        s.due("change's", 2, x.fault(0));
        s.due("its place", 1, x.fault(1));
        Checks.tape(x, "w2");
        x.touch(0, 1);
        s.due("touch's, without", 0, x.fault(0));
        Checks.hold(x, "w", 0);
        Checks.tape(x, "w3");
        x.change(0);
        s.due("change's, without", 0, x.fault(0));
        s.due("no place", -1, x.fault(1));
    }

    private static void itsFault(Sentences s) {
        PapersHeld x = new PapersHeld();
        String[] texts = {"w1", "w", "w30", TWELVE_NOTS + "!", "w2"};
        int[] want = {0, 1, 2, 3, 0};
        for (int i = 0; i < texts.length; i++) {
            Checks.hold(x, texts[i], 0);
            s.due("of " + texts[i], want[i], x.fault(0));
        }
    }

    private static void itsPlace(Sentences s) {
        PapersHeld x = new PapersHeld();
        String[] texts = {"w1", "w", " w30", TWELVE_NOTS + "!", " ".repeat(60), "w2"};
        int[] want = {-1, 0, 1, 12, 60, -1};
        for (int i = 0; i < texts.length; i++) {
            Checks.hold(x, texts[i], 0);
            s.due("of " + texts[i], want[i], x.fault(1));
        }
    }

    private static void noOtherFaults(Sentences s) {
        PapersHeld x = new PapersHeld();
        Checks.hold(x, "w30", 0);
        for (int what : Papers.outside(2)) {
            s.due("fault(" + what + ")", -1, x.fault(what));
        }
    }

    private static void aheadOfAny(Sentences s) {
        PapersHeld x = new PapersHeld();
        s.due("fault(0)", -1, x.fault(0));
        s.due("fault(1)", -1, x.fault(1));
        Checks.tape(x, "w30");
        s.due("fault(0) with a tape", -1, x.fault(0));
        s.due("fault(1) with a tape", -1, x.fault(1));
        x.end(0);
        x.hold(0);
        s.due("an empty text is one", 1, x.fault(0));
    }
}
