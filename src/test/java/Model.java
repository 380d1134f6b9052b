import java.util.ArrayList;
import java.util.List;
import java.util.Set;
import java.util.TreeSet;
import java.util.function.Predicate;

/**
 * The document told once more, as plainly as it can be and with no regard to speed: what FITS is
 * worked out anew from trees at each question, and days are looked at one by one.
 */
final class Model {
    static final class Thing {
        int kind;
        int owner;
        final Set<Integer> owners = new TreeSet<>();
    }

    static final class Version {
        Thing thing;
        int thingNumber;
        int words;
        int day;
        final Set<Integer> copies = new TreeSet<>();
    }

    static final class Hold {
        Predicate<Version> text;
        int from;
        Integer end;

        boolean lives(int day) {
            return day >= from && (end == null || day <= end - 1);
        }
    }

    static final class Backup {
        int store;
        final List<Version> versions = new ArrayList<>();
    }

    /** A text's first FAULT. */
    static final class Fault extends Exception {
        private static final long serialVersionUID = 1L;
        final int kind;
        final int place;

        Fault(int kind, int place) {
            this.kind = kind;
            this.place = place;
        }
    }

    /** EITHER, BOTH and ONE by recursive descent. */
    static final class Parser {
        private final String text;
        private int at;

        Parser(String text) {
            this.text = text;
        }

        static Predicate<Version> parse(String text) throws Fault {
            Parser parser = new Parser(text);
            Predicate<Version> whole = parser.either(0);
            if (parser.next() != 0) {
                throw new Fault(1, parser.at);
            }
            return whole;
        }

        /** The byte at which the next TOKEN starts; 0 at the end, 1 for a byte 0. */
        private char next() {
            while (at < text.length() && text.charAt(at) == ' ') {
                at++;
            }
            return at == text.length() ? 0 : (char) Math.max(1, text.charAt(at));
        }

        private Predicate<Version> either(int open) throws Fault {
            Predicate<Version> left = both(open);
            while (next() == '|') {
                at++;
                left = left.or(both(open));
            }
            return left;
        }

        private Predicate<Version> both(int open) throws Fault {
            Predicate<Version> left = one(open);
            while (next() == '&') {
                at++;
                left = left.and(one(open));
            }
            return left;
        }

        private Predicate<Version> one(int open) throws Fault {
            char token = next();
            int start = at;
            if ((token == '!' || token == '(') && open == 12) {
                throw new Fault(3, start);
            }
            if (token == '!') {
                at++;
                return one(open + 1).negate();
            }
            if (token == '(') {
                at++;
                Predicate<Version> inner = either(open + 1);
                if (next() != ')') {
                    throw new Fault(1, at);
                }
                at++;
                return inner;
            }
            if ("wpkd".indexOf(token) < 0) {
                throw new Fault(1, start);
            }
            at++;
            return leaf(token, start);
        }

        private Predicate<Version> leaf(char token, int start) throws Fault {
            double first = number(start);
            if (token == 'd') {
                if (at == text.length() || text.charAt(at) != '-') {
                    throw new Fault(1, start);
                }
                at++;
                double second = number(start);
                if (first > 5000 || second > 5000 || second < first) {
                    throw new Fault(2, start);
                }
                return v -> v.day >= first && v.day <= second;
            }
            if (first > (token == 'w' ? 29 : token == 'p' ? 9 : 5)) {
                throw new Fault(2, start);
            }
            int number = (int) first;
            return token == 'w' ? v -> (v.words & 1 << number) != 0
                    : token == 'p' ? v -> v.thing.owners.contains(number) : v -> v.thing.kind == number;
        }

        private double number(int start) throws Fault {
            int from = at;
            while (at < text.length() && "0123456789".indexOf(text.charAt(at)) >= 0) {
                at++;
            }
            if (at == from) {
                throw new Fault(1, start);
            }
            return Double.parseDouble(text.substring(from, at));
        }
    }

    final List<Thing> things = new ArrayList<>();
    final List<Version> versions = new ArrayList<>();
    final List<Hold> holds = new ArrayList<>();
    final List<Backup> backups = new ArrayList<>();
    final List<int[]> rules = new ArrayList<>();
    final List<int[]> records = new ArrayList<>();
    final Set<Integer> wishes = new TreeSet<>();
    final Set<Integer> broken = new TreeSet<>();
    String tape = "";
    boolean anyText;
    Fault latest;
    int clock;
    int chain = 1;

    private static boolean within(int number, int first, int last) {
        return first <= number && number <= last;
    }

    private static int set(Set<Integer> elements) {
        return elements.stream().mapToInt(e -> 1 << e).sum();
    }

    private boolean isThing(int t) {
        return within(t, 0, things.size() - 1);
    }

    private boolean isVersion(int v) {
        return within(v, 0, versions.size() - 1);
    }

    private boolean isHold(int h) {
        return within(h, 0, holds.size() - 1);
    }

    private boolean isWhole(int store) {
        return within(store, 0, 5) && !broken.contains(store);
    }

    private boolean hasEnded(Hold h) {
        return h.end != null && h.end <= clock;
    }

    private Integer term(Version v) {
        Integer most = null;
        for (int[] rule : rules) {
            if (rule[0] == v.thing.kind && (most == null || rule[1] > most)) {
                most = rule[1];
            }
        }
        return most == null ? null : v.day + most;
    }

    private boolean due(Version v, int day) {
        return wishes.contains(v.thing.owner) || term(v) != null && term(v) <= day;
    }

    private boolean held(Version v, int day) {
        return holds.stream().anyMatch(h -> h.lives(day) && h.text.test(v));
    }

    private List<Version> there() {
        return versions.stream().filter(v -> !v.copies.isEmpty()).toList();
    }

    private int leastDay(Version v) {
        for (int day = clock; day <= 5000; day++) {
            if (due(v, day) && !held(v, day)) {
                return day;
            }
        }
        return -1;
    }

    private Predicate<Version> text() {
        String text = tape;
        tape = "";
        anyText = true;
        latest = null;
        try {
            return Parser.parse(text);
        } catch (Fault fault) {
            latest = fault;
            return null;
        }
    }

    int thing(int kind, int owner) {
        if (!within(kind, 0, 5) || !within(owner, 0, 9) || things.size() == 40) {
            return -1;
        }
        Thing made = new Thing();
        made.kind = kind;
        made.owner = owner;
        made.owners.add(owner);
        things.add(made);
        return things.size() - 1;
    }

    int version(int thing, int words, int store) {
        if (!isThing(thing) || words < 0 || words >>> 30 != 0 || !isWhole(store) || versions.size() == 120) {
            return -1;
        }
        Version made = new Version();
        made.thing = things.get(thing);
        made.thingNumber = thing;
        made.words = words;
        made.day = clock;
        made.copies.add(store);
        versions.add(made);
        return versions.size() - 1;
    }

    int gives(int person, int other) {
        if (!within(person, 0, 9) || !within(other, 0, 9) || person == other) {
            return -1;
        }
        List<Thing> given = things.stream().filter(t -> t.owner == person).toList();
        for (Thing t : given) {
            t.owner = other;
            t.owners.add(other);
        }
        return given.size();
    }

    boolean copy(int version, int store) {
        if (!isVersion(version) || !isWhole(store)) {
            return false;
        }
        Set<Integer> copies = versions.get(version).copies;
        return copies.stream().anyMatch(this::isWhole) && copies.add(store);
    }

    boolean move(int version, int from, int to) {
        if (!isVersion(version) || !isWhole(from) || !isWhole(to) || from == to) {
            return false;
        }
        Set<Integer> copies = versions.get(version).copies;
        if (!copies.remove(from)) {
            return false;
        }
        copies.add(to);
        return true;
    }

    boolean broken(int store, boolean it) {
        if (!within(store, 0, 5)) {
            return false;
        }
        if (it) {
            broken.add(store);
        } else {
            broken.remove(store);
        }
        return true;
    }

    int backup(int store) {
        if (!isWhole(store) || backups.size() == 10) {
            return -1;
        }
        Backup made = new Backup();
        made.store = store;
        versions.stream().filter(v -> v.copies.contains(store)).forEach(made.versions::add);
        backups.add(made);
        return backups.size() - 1;
    }

    int restore(int backup) {
        if (!within(backup, 0, backups.size() - 1) || !isWhole(backups.get(backup).store)) {
            return -1;
        }
        int came = 0;
        for (Version v : backups.get(backup).versions) {
            came += v.copies.add(backups.get(backup).store) ? 1 : 0;
        }
        return came;
    }

    int feed(int... fours) {
        if (tape.length() > 40) {
            return -1;
        }
        for (int four : fours) {
            tape += "" + (char) (four >>> 24) + (char) (four >> 16 & 255) + (char) (four >> 8 & 255) + (char) (four & 255);
        }
        return tape.length();
    }

    int end(int n) {
        if (!within(n, 0, tape.length())) {
            return -1;
        }
        tape = tape.substring(0, n);
        return n;
    }

    int hold(int from) {
        if (!within(from, clock, 5000) || holds.size() == 12) {
            return -1;
        }
        Predicate<Version> text = text();
        if (text == null) {
            return -1;
        }
        Hold made = new Hold();
        made.text = text;
        made.from = from;
        holds.add(made);
        return holds.size() - 1;
    }

    int fault(int what) {
        if (!anyText || !within(what, 0, 1)) {
            return -1;
        }
        return what == 0 ? latest == null ? 0 : latest.kind : latest == null ? -1 : latest.place;
    }

    boolean ends(int hold, int day) {
        if (!isHold(hold) || hasEnded(holds.get(hold))) {
            return false;
        }
        if (!within(day, clock, 5000) || day < holds.get(hold).from) {
            return false;
        }
        holds.get(hold).end = day;
        return true;
    }

    int touch(int hold, int what) {
        if (!isHold(hold) || !within(what, 0, 1)) {
            return -1;
        }
        Predicate<Version> then = text();
        if (then == null) {
            return -1;
        }
        Predicate<Version> now = holds.get(hold).text;
        Predicate<Version> counts = what == 0 ? then.and(now.negate()) : now.and(then.negate());
        return (int) there().stream().filter(counts).count();
    }

    boolean change(int hold) {
        if (!isHold(hold) || hasEnded(holds.get(hold))) {
            return false;
        }
        Predicate<Version> text = text();
        if (text != null) {
            holds.get(hold).text = text;
        }
        return text != null;
    }

    int rule(int kind, int days) {
        if (!within(kind, 0, 5) || !within(days, 0, 4000) || rules.size() == 20) {
            return -1;
        }
        rules.add(new int[] {kind, days});
        return rules.size();
    }

    boolean forget(int person) {
        return within(person, 0, 9) && wishes.add(person);
    }

    int days(int n) {
        if (!within(n, 1, 100) || clock + n > 5000) {
            return -1;
        }
        int before = records.size();
        for (int i = 0; i < n; i++) {
            for (int v = 0; v < versions.size(); v++) {
                endOne(v);
            }
            clock++;
        }
        return records.size() - before;
    }

    private void endOne(int number) {
        Version v = versions.get(number);
        if (v.copies.isEmpty() || !due(v, clock) || held(v, clock)) {
            return;
        }
        Set<Integer> went = new TreeSet<>(v.copies);
        went.removeAll(broken);
        if (!went.isEmpty()) {
            v.copies.removeAll(went);
            records.add(new int[] {number, clock, set(went)});
            chain = chain * 31 + number * 10000 + clock * 64 + set(went);
        }
    }

    int versionOf(int version, int what) {
        if (!isVersion(version) || !within(what, 0, 7)) {
            return -1;
        }
        Version v = versions.get(version);
        int living = 0;
        for (int h = 0; h < holds.size(); h++) {
            living += holds.get(h).lives(clock) && holds.get(h).text.test(v) ? 1 << h : 0;
        }
        return switch (what) {
            case 0 -> v.thingNumber;
            case 1 -> v.words;
            case 2 -> v.day;
            case 3 -> set(v.copies);
            case 4 -> living;
            case 5 -> term(v) == null ? -1 : term(v);
            case 6 -> due(v, clock) ? 1 : 0;
            default -> v.copies.isEmpty() ? -1 : leastDay(v);
        };
    }

    int would(int day, int what) {
        if (!within(day, clock, 5000) || !within(what, 0, 1)) {
            return -1;
        }
        int count = 0;
        for (Version v : there()) {
            boolean goes = false;
            boolean goesWithoutHolds = false;
            for (int d = clock; d <= day; d++) {
                goesWithoutHolds |= due(v, d);
                goes |= what == 1 && due(v, d) && !held(v, d);
            }
            count += goesWithoutHolds && !goes ? 1 : 0;
        }
        return count;
    }

    int fits(int hold) {
        return isHold(hold) ? (int) there().stream().filter(holds.get(hold).text).count() : -1;
    }

    int fit(int hold, int i) {
        if (!isHold(hold)) {
            return -1;
        }
        List<Version> fitting = there().stream().filter(holds.get(hold).text).toList();
        return within(i, 0, fitting.size() - 1) ? versions.indexOf(fitting.get(i)) : -1;
    }

    int record(int i, int what) {
        return within(i, 0, Math.min(records.size(), 6000) - 1) && within(what, 0, 2) ? records.get(i)[what] : -1;
    }

    int chain() {
        return chain;
    }

    int about(int what) {
        if (within(what, 20, 59)) {
            return isThing(what - 20) ? things.get(what - 20).owner : -1;
        }
        if (within(what, 60, 99)) {
            return isThing(what - 60) ? set(things.get(what - 60).owners) : -1;
        }
        return switch (what) {
            case 0 -> things.size();
            case 1 -> versions.size();
            case 2 -> clock;
            case 3 -> holds.size();
            case 4 -> rules.size();
            case 5 -> records.size();
            case 6 -> there().size();
            case 7 -> (int) there().stream().filter(v -> due(v, clock) && !held(v, clock)
                    && broken.containsAll(v.copies)).count();
            case 8 -> (int) there().stream().filter(v -> held(v, clock)).count();
            case 9 -> tape.length();
            case 10 -> set(broken);
            default -> -1;
        };
    }
}
