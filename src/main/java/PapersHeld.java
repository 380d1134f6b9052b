import java.util.Arrays;

/**
 * A keeper of papers that must not go while a quarrel lasts. The names in capitals (THING, VERSION,
 * HOLD ..) are those of the document; "ahead of" a DAY means before it there.
 */
public final class PapersHeld {

    public static final int NONE = -1;

    private static final int LAST_DAY = 5000;
    /** Behind every DAY: a day that compares as later than all that can be asked for. */
    private static final int NEVER = LAST_DAY + 1;
    private static final int PERSONS = 10;
    private static final int KINDS = 6;
    private static final int WORDS = 30;
    private static final int STORES = 6;
    private static final int MOST_THINGS = 40;
    private static final int MOST_VERSIONS = 120;
    private static final int MOST_HOLDS = 12;
    private static final int MOST_RULES = 20;
    private static final int MOST_RULE_DAYS = 4000;
    private static final int MOST_BACKUPS = 10;
    private static final int MOST_KEPT_RECORDS = 6000;
    private static final int MOST_DAYS_A_CALL = 100;
    private static final int MOST_BYTES = 60;
    private static final int BYTES_A_FEED = 20;
    private static final int MOST_OPEN = 12;
    /** The row of Texts for a text that no HOLD has (yet). */
    private static final int AT_HAND = MOST_HOLDS;
    private static final int ABOUT_OWNER = 20;
    private static final int ABOUT_OWNERS = 60;

    private static final int FAULT_PLACE = 1;
    private static final int FAULT_NUMBER = 2;
    private static final int FAULT_OPEN = 3;

    private static final int STEP_WORD = 0;
    private static final int STEP_PERSON = 1;
    private static final int STEP_KIND = 2;
    private static final int STEP_DAYS = 3;
    private static final int STEP_NOT = 4;
    private static final int STEP_AND = 5;
    private static final int STEP_OR = 6;

    private final Things things = new Things();
    private final Versions versions = new Versions();
    private final Holds holds = new Holds();
    private final TextReader reader = new TextReader();
    private final Tape tape = reader.tape;
    private final Texts texts = reader.texts;
    private final Records records = new Records();
    private final int[] longestRule = new int[KINDS];
    private int ruleCount;
    private final int[] backupStore = new int[MOST_BACKUPS];
    private int backupCount;
    private int wishes;
    private int brokenStores;
    private int clock;

    public PapersHeld() {
        Arrays.fill(longestRule, NONE);
    }

    public int thing(int kind, int owner) {
        if (!isBelow(kind, KINDS) || !isBelow(owner, PERSONS)) {
            return NONE;
        }
        return things.add(kind, owner);
    }

    public int version(int thing, int words, int store) {
        if (!isBelow(thing, things.count) || !isBelow(words, 1 << WORDS) || !isWhole(store)) {
            return NONE;
        }
        int made = versions.add(thing, words, clock, 1 << store);
        if (made != NONE) {
            fitToHolds(made);
        }
        return made;
    }

    public int gives(int person, int other) {
        if (!isBelow(person, PERSONS) || !isBelow(other, PERSONS) || person == other) {
            return NONE;
        }
        int given = things.give(person, other);
        for (int v = 0; v < versions.count; v++) {
            fitToHolds(v);
        }
        return given;
    }

    public boolean copy(int version, int store) {
        if (!isBelow(version, versions.count) || !isWhole(store)) {
            return false;
        }
        if (wholeCopies(version) == 0 || isIn(versions.copies[version], store)) {
            return false;
        }
        versions.copies[version] |= 1 << store;
        return true;
    }

    public boolean move(int version, int from, int to) {
        if (!isBelow(version, versions.count) || !isWhole(from) || !isWhole(to) || from == to) {
            return false;
        }
        if (!isIn(versions.copies[version], from)) {
            return false;
        }
        versions.copies[version] &= ~(1 << from);
        versions.copies[version] |= 1 << to;
        return true;
    }

    public boolean broken(int store, boolean it) {
        if (!isBelow(store, STORES)) {
            return false;
        }
        if (it) {
            brokenStores |= 1 << store;
        } else {
            brokenStores &= ~(1 << store);
        }
        return true;
    }

    public int backup(int store) {
        if (!isWhole(store) || backupCount >= MOST_BACKUPS) {
            return NONE;
        }
        int made = backupCount;
        backupStore[made] = store;
        backupCount++;
        versions.keepFor(made, store);
        return made;
    }

    public int restore(int backup) {
        if (!isBelow(backup, backupCount) || !isWhole(backupStore[backup])) {
            return NONE;
        }
        return versions.bringBack(backup, backupStore[backup]);
    }

    public int feed(int a, int b, int c, int d, int e) {
        if (tape.length + BYTES_A_FEED > MOST_BYTES) {
            return NONE;
        }
        tape.addFour(a);
        tape.addFour(b);
        tape.addFour(c);
        tape.addFour(d);
        tape.addFour(e);
        return tape.length;
    }

    public int end(int n) {
        if (n < 0 || n > tape.length) {
            return NONE;
        }
        tape.length = n;
        return n;
    }

    public int hold(int from) {
        if (from < clock || from > LAST_DAY || holds.count >= MOST_HOLDS || !takeText()) {
            return NONE;
        }
        int made = holds.add(from);
        if (made != NONE) {
            giveText(made);
        }
        return made;
    }

    public int fault(int what) {
        if (!reader.hasRead) {
            return NONE;
        }
        switch (what) {
            case 0:
                return reader.fault;
            case 1:
                return reader.fault == 0 ? NONE : reader.place;
            default:
                return NONE;
        }
    }

    public boolean ends(int hold, int day) {
        if (!isBelow(hold, holds.count) || holds.isOver(hold, clock)) {
            return false;
        }
        if (day < clock || day < holds.firstDay[hold] || day > LAST_DAY) {
            return false;
        }
        holds.lastEnd[hold] = day;
        return true;
    }

    public int touch(int hold, int what) {
        if (!isBelow(hold, holds.count) || !isBelow(what, 2) || !takeText()) {
            return NONE;
        }
        int count = 0;
        for (int v = 0; v < versions.count; v++) {
            boolean now = isIn(versions.fitting[v], hold);
            boolean then = textFits(AT_HAND, v);
            boolean counts = what == 0 ? then && !now : now && !then;
            if (isThere(v) && counts) {
                count++;
            }
        }
        return count;
    }

    public boolean change(int hold) {
        if (!isBelow(hold, holds.count) || holds.isOver(hold, clock) || !takeText()) {
            return false;
        }
        giveText(hold);
        return true;
    }

    public int rule(int kind, int days) {
        if (!isBelow(kind, KINDS) || days < 0 || days > MOST_RULE_DAYS || ruleCount >= MOST_RULES) {
            return NONE;
        }
        longestRule[kind] = Math.max(longestRule[kind], days);
        ruleCount++;
        return ruleCount;
    }

    public boolean forget(int person) {
        if (!isBelow(person, PERSONS) || isIn(wishes, person)) {
            return false;
        }
        wishes |= 1 << person;
        return true;
    }

    public int days(int n) {
        if (n < 1 || n > MOST_DAYS_A_CALL || clock + n > LAST_DAY) {
            return NONE;
        }
        int before = records.count;
        for (int i = 0; i < n; i++) {
            endTheDay();
        }
        return records.count - before;
    }

    public int versionOf(int version, int what) {
        if (!isBelow(version, versions.count)) {
            return NONE;
        }
        switch (what) {
            case 0:
                return versions.thing[version];
            case 1:
                return versions.words[version];
            case 2:
                return versions.day[version];
            case 3:
                return versions.copies[version];
            case 4:
                return versions.fitting[version] & holds.livingOn(clock);
            case 5:
                return termOf(version);
            case 6:
                return dueFrom(version) <= clock ? 1 : 0;
            case 7:
                return isThere(version) ? dayOrNone(goesOn(version)) : NONE;
            default:
                return NONE;
        }
    }

    public int would(int day, int what) {
        if (day < clock || day > LAST_DAY || !isBelow(what, 2)) {
            return NONE;
        }
        int count = 0;
        for (int v = 0; v < versions.count; v++) {
            boolean wouldGo = isThere(v) && dueFrom(v) <= day;
            if (wouldGo && (what == 0 || goesOn(v) > day)) {
                count++;
            }
        }
        return count;
    }

    public int fits(int hold) {
        if (!isBelow(hold, holds.count)) {
            return NONE;
        }
        int count = 0;
        for (int v = 0; v < versions.count; v++) {
            if (isThereAndFits(v, hold)) {
                count++;
            }
        }
        return count;
    }

    public int fit(int hold, int i) {
        if (!isBelow(hold, holds.count) || i < 0) {
            return NONE;
        }
        int before = 0;
        for (int v = 0; v < versions.count; v++) {
            if (isThereAndFits(v, hold)) {
                if (before == i) {
                    return v;
                }
                before++;
            }
        }
        return NONE;
    }

    public int record(int i, int what) {
        if (!isBelow(i, records.keptCount())) {
            return NONE;
        }
        switch (what) {
            case 0:
                return records.versionAt(i);
            case 1:
                return records.dayAt(i);
            case 2:
                return records.storesAt(i);
            default:
                return NONE;
        }
    }

    public int chain() {
        return records.link;
    }

    public int about(int what) {
        switch (what) {
            case 0:
                return things.count;
            case 1:
                return versions.count;
            case 2:
                return clock;
            case 3:
                return holds.count;
            case 4:
                return ruleCount;
            case 5:
                return records.count;
            case 6:
                return countThere();
            case 7:
                return countOpen();
            case 8:
                return countHeld();
            case 9:
                return tape.length;
            case 10:
                return brokenStores;
            default:
                return aboutOwners(what);
        }
    }

    private int aboutOwners(int what) {
        // Tested here first: taking 60 from the least numbers would wrap around.
        if (what < ABOUT_OWNER) {
            return NONE;
        }
        if (isBelow(what - ABOUT_OWNERS, things.count)) {
            return things.owners[what - ABOUT_OWNERS];
        }
        if (isBelow(what - ABOUT_OWNER, things.count)) {
            return things.owner[what - ABOUT_OWNER];
        }
        return NONE;
    }

    private int countThere() {
        int count = 0;
        for (int v = 0; v < versions.count; v++) {
            if (isThere(v)) {
                count++;
            }
        }
        return count;
    }

    private int countOpen() {
        int living = holds.livingOn(clock);
        int count = 0;
        for (int v = 0; v < versions.count; v++) {
            boolean unreached = isThere(v) && wholeCopies(v) == 0;
            if (unreached && dueFrom(v) <= clock && (versions.fitting[v] & living) == 0) {
                count++;
            }
        }
        return count;
    }

    private int countHeld() {
        int living = holds.livingOn(clock);
        int count = 0;
        for (int v = 0; v < versions.count; v++) {
            if (isThere(v) && (versions.fitting[v] & living) != 0) {
                count++;
            }
        }
        return count;
    }

    private void endTheDay() {
        int living = holds.livingOn(clock);
        for (int v = 0; v < versions.count; v++) {
            int went = wholeCopies(v);
            if (went != 0 && dueFrom(v) <= clock && (versions.fitting[v] & living) == 0) {
                versions.copies[v] &= ~went;
                records.add(v, clock, went);
            }
        }
        clock++;
    }

    /** Reads the tape and empties it; whether the text has no FAULT. */
    private boolean takeText() {
        reader.readTape();
        tape.length = 0;
        return reader.fault == 0;
    }

    private void giveText(int hold) {
        texts.takeAtHand(hold);
        for (int v = 0; v < versions.count; v++) {
            fitToHold(v, hold);
        }
    }

    private void fitToHolds(int version) {
        for (int h = 0; h < holds.count; h++) {
            fitToHold(version, h);
        }
    }

    // What FITS is kept with the VERSION, as it changes far more seldom than it is asked for.
    private void fitToHold(int version, int hold) {
        if (textFits(hold, version)) {
            versions.fitting[version] |= 1 << hold;
        } else {
            versions.fitting[version] &= ~(1 << hold);
        }
    }

    private boolean textFits(int row, int version) {
        int thing = versions.thing[version];
        return texts.accepts(row, versions.words[version], things.owners[thing], things.kind[thing],
                versions.day[version]);
    }

    private int termOf(int version) {
        int longest = longestRule[things.kind[versions.thing[version]]];
        return longest == NONE ? NONE : versions.day[version] + longest;
    }

    /** The least day from the clock's on, on which a VERSION is DUE: behind the last DAY if it never is. */
    private int dueFrom(int version) {
        if (isIn(wishes, things.owner[versions.thing[version]])) {
            return clock;
        }
        int term = termOf(version);
        return term == NONE ? NEVER : Math.max(term, clock);
    }

    /** The least day from the clock's on, on which a VERSION is DUE and not HELD: behind the last DAY if none is. */
    private int goesOn(int version) {
        int day = dueFrom(version);
        // Each round leaves the END of a HOLD behind, so there are no more rounds than HOLDS.
        for (int round = 0; round < holds.count; round++) {
            int until = holds.heldUntil(versions.fitting[version], day);
            if (until == day) {
                return day;
            }
            day = until;
        }
        return day;
    }

    private static int dayOrNone(int day) {
        return day <= LAST_DAY ? day : NONE;
    }

    private boolean isThereAndFits(int version, int hold) {
        return isThere(version) && isIn(versions.fitting[version], hold);
    }

    private boolean isThere(int version) {
        return versions.copies[version] != 0;
    }

    private int wholeCopies(int version) {
        return versions.copies[version] & ~brokenStores;
    }

    private boolean isWhole(int store) {
        return isBelow(store, STORES) && !isIn(brokenStores, store);
    }

    private static boolean isBelow(int number, int bound) {
        return number >= 0 && number < bound;
    }

    private static boolean isIn(int set, int element) {
        return (set >>> element & 1) == 1;
    }

    private static final class Things {
        final int[] kind = new int[MOST_THINGS];
        final int[] owner = new int[MOST_THINGS];
        final int[] owners = new int[MOST_THINGS];
        int count;

        int add(int itsKind, int itsOwner) {
            if (count >= MOST_THINGS) {
                return NONE;
            }
            int made = count;
            kind[made] = itsKind;
            owner[made] = itsOwner;
            owners[made] = 1 << itsOwner;
            count++;
            return made;
        }

        int give(int person, int other) {
            int given = 0;
            for (int t = 0; t < count; t++) {
                if (owner[t] == person) {
                    owner[t] = other;
                    owners[t] |= 1 << other;
                    given++;
                }
            }
            return given;
        }
    }

    private static final class Versions {
        final int[] thing = new int[MOST_VERSIONS];
        final int[] words = new int[MOST_VERSIONS];
        final int[] day = new int[MOST_VERSIONS];
        final int[] copies = new int[MOST_VERSIONS];
        /** The HOLDS whose texts FIT, LIVING or not (a set). */
        final int[] fitting = new int[MOST_VERSIONS];
        /** The BACKUPS that have a COPY (a set). */
        final int[] backups = new int[MOST_VERSIONS];
        int count;

        int add(int itsThing, int itsWords, int itsDay, int itsCopies) {
            if (count >= MOST_VERSIONS) {
                return NONE;
            }
            int made = count;
            thing[made] = itsThing;
            words[made] = itsWords;
            day[made] = itsDay;
            copies[made] = itsCopies;
            count++;
            return made;
        }

        void keepFor(int backup, int store) {
            for (int v = 0; v < count; v++) {
                if (isIn(copies[v], store)) {
                    backups[v] |= 1 << backup;
                }
            }
        }

        int bringBack(int backup, int store) {
            int came = 0;
            for (int v = 0; v < count; v++) {
                if (isIn(backups[v], backup) && !isIn(copies[v], store)) {
                    copies[v] |= 1 << store;
                    came++;
                }
            }
            return came;
        }
    }

    private static final class Holds {
        final int[] firstDay = new int[MOST_HOLDS];
        /** The END, NONE as long as none is told. */
        final int[] lastEnd = new int[MOST_HOLDS];
        int count;

        int add(int from) {
            if (count >= MOST_HOLDS) {
                return NONE;
            }
            int made = count;
            firstDay[made] = from;
            lastEnd[made] = NONE;
            count++;
            return made;
        }

        boolean isOver(int hold, int day) {
            return lastEnd[hold] != NONE && lastEnd[hold] <= day;
        }

        boolean lives(int hold, int day) {
            return firstDay[hold] <= day && !isOver(hold, day);
        }

        int livingOn(int day) {
            int living = 0;
            for (int h = 0; h < count; h++) {
                if (lives(h, day)) {
                    living |= 1 << h;
                }
            }
            return living;
        }

        /** The furthest END of those of a set that LIVE on a day (NEVER without one); the day itself if none does. */
        int heldUntil(int set, int day) {
            int until = day;
            for (int h = 0; h < count; h++) {
                if (isIn(set, h) && lives(h, day)) {
                    until = Math.max(until, lastEnd[h] == NONE ? NEVER : lastEnd[h]);
                }
            }
            return until;
        }
    }

    private static final class Records {
        /** Stores in the lowest 6 bits, the VERSION in 7 above them, the DAY above these. */
        private final int[] kept = new int[MOST_KEPT_RECORDS];
        int count;
        int link = 1;

        void add(int version, int day, int stores) {
            if (count < MOST_KEPT_RECORDS) {
                kept[count] = day << 13 | version << 6 | stores;
            }
            count++;
            link = 31 * link + 10000 * version + 64 * day + stores;
        }

        int keptCount() {
            return Math.min(count, MOST_KEPT_RECORDS);
        }

        int versionAt(int i) {
            return kept[i] >>> 6 & 127;
        }

        int dayAt(int i) {
            return kept[i] >>> 13;
        }

        int storesAt(int i) {
            return kept[i] & 63;
        }
    }

    private static final class Tape {
        private final int[] bytes = new int[MOST_BYTES];
        int length;

        void addFour(int four) {
            for (int shift = 24; shift >= 0 && length < MOST_BYTES; shift -= 8) {
                bytes[length] = four >>> shift & 255;
                length++;
            }
        }

        /** The byte at a place, NONE from the tape's end on. */
        int byteAt(int place) {
            return place >= 0 && place < length ? bytes[place] : NONE;
        }
    }

    /**
     * The texts of the HOLDS and one at hand, each as steps that follow what they work on, so that a
     * text is worked out in one pass without recursion.
     */
    private static final class Texts {
        /** What to do in the lowest 3 bits, a first number in 13 above them, a second above these. */
        private final int[][] steps = new int[MOST_HOLDS + 1][MOST_BYTES];
        private final int[] length = new int[MOST_HOLDS + 1];

        void clearAtHand() {
            length[AT_HAND] = 0;
        }

        void addAtHand(int step, int first, int second) {
            int place = length[AT_HAND];
            if (place < MOST_BYTES) {
                steps[AT_HAND][place] = second << 16 | first << 3 | step;
                length[AT_HAND]++;
            }
        }

        void takeAtHand(int row) {
            System.arraycopy(steps[AT_HAND], 0, steps[row], 0, MOST_BYTES);
            length[row] = length[AT_HAND];
        }

        boolean accepts(int row, int words, int owners, int kind, int day) {
            // A stack of bits, the top lowest: 60 bytes have room for 20 operands with signs between.
            int stack = 0;
            for (int i = 0; i < length[row]; i++) {
                int step = steps[row][i];
                int first = step >>> 3 & 8191;
                switch (step & 7) {
                    case STEP_WORD:
                        stack = push(stack, isIn(words, first));
                        break;
                    case STEP_PERSON:
                        stack = push(stack, isIn(owners, first));
                        break;
                    case STEP_KIND:
                        stack = push(stack, kind == first);
                        break;
                    case STEP_DAYS:
                        stack = push(stack, day >= first && day <= step >>> 16);
                        break;
                    case STEP_NOT:
                        stack ^= 1;
                        break;
                    case STEP_AND:
                        stack = stack >>> 1 & (stack | ~1);
                        break;
                    default:
                        stack = stack >>> 1 | stack & 1;
                        break;
                }
            }
            return (stack & 1) == 1;
        }

        private static int push(int stack, boolean it) {
            return stack << 1 | (it ? 1 : 0);
        }
    }

    /** Reads the tape's text into the row of Texts at hand, up to its first FAULT. */
    private static final class TextReader {
        final Tape tape = new Tape();
        final Texts texts = new Texts();
        /** The signs ! & | ( that wait for what stands behind them to be over, the innermost last. */
        private final int[] waiting = new int[MOST_BYTES];
        private int waitingCount;
        private int openCount;
        private int bracketCount;
        private boolean wantsOne;
        private boolean isDone;
        private int at;
        boolean hasRead;
        int fault;
        int place;

        void readTape() {
            startOver();
            // Each TOKEN has a byte at least, and the end comes behind them.
            for (int i = 0; i <= MOST_BYTES && !isDone; i++) {
                skipBlanks();
                place = at;
                int token = tape.byteAt(at);
                at++;
                if (token == NONE) {
                    readTheEnd();
                } else if (wantsOne) {
                    readOne(token);
                } else {
                    readBetween(token);
                }
            }
        }

        private void startOver() {
            texts.clearAtHand();
            waitingCount = 0;
            openCount = 0;
            bracketCount = 0;
            wantsOne = true;
            isDone = false;
            at = 0;
            hasRead = true;
            fault = 0;
        }

        private void skipBlanks() {
            for (int i = 0; i < MOST_BYTES && tape.byteAt(at) == ' '; i++) {
                at++;
            }
        }

        private void readTheEnd() {
            if (wantsOne || bracketCount > 0) {
                fail(FAULT_PLACE);
                return;
            }
            workOut('&', '|');
            isDone = true;
        }

        private void readOne(int token) {
            switch (token) {
                case '!':
                case '(':
                    openUp(token);
                    break;
                case 'w':
                    readNumbered(STEP_WORD, WORDS - 1);
                    break;
                case 'p':
                    readNumbered(STEP_PERSON, PERSONS - 1);
                    break;
                case 'k':
                    readNumbered(STEP_KIND, KINDS - 1);
                    break;
                case 'd':
                    readDays();
                    break;
                default:
                    fail(FAULT_PLACE);
                    break;
            }
        }

        private void readBetween(int token) {
            switch (token) {
                case '&':
                    workOut('&', '&');
                    putOff(token);
                    wantsOne = true;
                    break;
                case '|':
                    workOut('&', '|');
                    putOff(token);
                    wantsOne = true;
                    break;
                case ')':
                    closeBracket();
                    break;
                default:
                    fail(FAULT_PLACE);
                    break;
            }
        }

        private void openUp(int token) {
            if (openCount >= MOST_OPEN) {
                fail(FAULT_OPEN);
                return;
            }
            openCount++;
            if (token == '(') {
                bracketCount++;
            }
            putOff(token);
        }

        private void closeBracket() {
            if (bracketCount == 0) {
                fail(FAULT_PLACE);
                return;
            }
            workOut('&', '|');
            // The innermost that waits is the bracket now.
            waitingCount--;
            bracketCount--;
            openCount--;
            endOne();
        }

        private void readNumbered(int step, int most) {
            int number = readNumber();
            if (number == NONE) {
                fail(FAULT_PLACE);
            } else if (number > most) {
                fail(FAULT_NUMBER);
            } else {
                texts.addAtHand(step, number, 0);
                endOne();
            }
        }

        private void readDays() {
            int first = readNumber();
            int second = NONE;
            if (tape.byteAt(at) == '-') {
                at++;
                second = readNumber();
            }
            if (first == NONE || second == NONE) {
                fail(FAULT_PLACE);
            } else if (second > LAST_DAY || first > second) {
                fail(FAULT_NUMBER);
            } else {
                texts.addAtHand(STEP_DAYS, first, second);
                endOne();
            }
        }

        /** The number whose digits come now, NONE without a digit; NEVER stands for all that are too high. */
        private int readNumber() {
            int number = NONE;
            for (int i = 0; i < MOST_BYTES && isDigit(tape.byteAt(at)); i++) {
                number = Math.min(Math.max(number, 0) * 10 + tape.byteAt(at) - '0', NEVER);
                at++;
            }
            return number;
        }

        private static boolean isDigit(int token) {
            return token >= '0' && token <= '9';
        }

        /** A ONE is over, and with it all ! right ahead of it. */
        private void endOne() {
            for (int i = 0; i < MOST_OPEN && innermost() == '!'; i++) {
                waitingCount--;
                openCount--;
                texts.addAtHand(STEP_NOT, 0, 0);
            }
            wantsOne = false;
        }

        /** The innermost signs that wait are worked out as long as they are one of two. */
        private void workOut(int sign, int other) {
            for (int i = 0; i < MOST_BYTES && (innermost() == sign || innermost() == other); i++) {
                texts.addAtHand(innermost() == '&' ? STEP_AND : STEP_OR, 0, 0);
                waitingCount--;
            }
        }

        private void putOff(int sign) {
            if (waitingCount < MOST_BYTES) {
                waiting[waitingCount] = sign;
                waitingCount++;
            }
        }

        private int innermost() {
            return waitingCount > 0 ? waiting[waitingCount - 1] : NONE;
        }

        private void fail(int itsFault) {
            fault = itsFault;
            isDone = true;
        }
    }
}
