import java.util.Random;

/** Runs of close to 512 calls drawn with fixed seeds, each answer beside that of the Model. */
public final class ModelTest {
    private static final int RUNS = 1000;
    /** What an object is used for at most, less what one step may take. */
    private static final int CALLS = 512 - 20;
    private static final int[] EDGES = {-1, Integer.MIN_VALUE, Integer.MAX_VALUE, 5001, 6, 10, 12, 31, 32, 40, 120};
    private static final Checks CHECKS = new Checks("ModelTest");

    private final Random random;
    private final PapersHeld x = new PapersHeld();
    private final Model m = new Model();
    private final int longest;

    private ModelTest(int seed) {
        random = new Random(seed);
        longest = seed % 4 == 0 ? 100 : 4;
    }

    public static void main(String[] args) {
        for (int seed = 0; seed < RUNS && CHECKS.wrongSoFar() == 0; seed++) {
            ModelTest run = new ModelTest(seed);
            int before = CHECKS.answersSoFar();
            for (int i = 0; CHECKS.answersSoFar() - before < CALLS && CHECKS.wrongSoFar() == 0; i++) {
                run.oneCall("seed " + seed + ", step " + i + ": ");
            }
        }
        CHECKS.finish();
    }

    /** A number below a bound, now and then one that isn't. */
    private int below(int bound) {
        return random.nextInt(40) == 0 ? EDGES[random.nextInt(EDGES.length)] : random.nextInt(Math.max(1, bound));
    }

    /** A day near the clock's, now and then far from it. */
    private int day() {
        int kind = random.nextInt(20);
        return kind == 0 ? below(5001) : m.clock + random.nextInt(3 * longest) - (kind < 4 ? 2 : 0);
    }

    private void oneCall(String at) {
        int kind = random.nextInt(100);
        if (kind < 40) {
            change(at, kind);
        } else if (kind < 60) {
            text(at);
        } else {
            question(at, kind - 60);
        }
    }

    private void change(String at, int kind) {
        int a = below(6);
        int b = below(10);
        int c = below(6);
        int v = below(m.versions.size());
        if (kind < 3) {
            CHECKS.due(at + "thing", m.thing(a, b), x.thing(a, b));
        } else if (kind < 12) {
            int t = below(m.things.size());
            int words = random.nextInt(20) == 0 ? random.nextInt() : random.nextInt(64) | random.nextInt(2) << 29;
            CHECKS.due(at + "version", m.version(t, words, a), x.version(t, words, a));
        } else if (kind < 14) {
            int other = below(10);
            CHECKS.due(at + "gives", m.gives(b, other), x.gives(b, other));
        } else if (kind < 19) {
            CHECKS.due(at + "copy", m.copy(v, a), x.copy(v, a));
        } else if (kind < 23) {
            CHECKS.due(at + "move", m.move(v, a, c), x.move(v, a, c));
        } else if (kind < 26) {
            boolean it = random.nextInt(3) == 0;
            CHECKS.due(at + "broken", m.broken(a, it), x.broken(a, it));
        } else if (kind < 28) {
            CHECKS.due(at + "backup", m.backup(a), x.backup(a));
        } else if (kind < 31) {
            int backup = below(m.backups.size() + 1);
            CHECKS.due(at + "restore", m.restore(backup), x.restore(backup));
        } else if (kind < 33) {
            int days = random.nextInt(4) == 0 ? below(4002) : random.nextInt(2 * longest);
            CHECKS.due(at + "rule", m.rule(a, days), x.rule(a, days));
        } else if (kind < 34) {
            CHECKS.due(at + "forget", m.forget(b), x.forget(b));
        } else {
            int n = random.nextInt(30) == 0 ? below(200) : 1 + random.nextInt(longest);
            CHECKS.due(at + "days", m.days(n), x.days(n));
        }
    }

    /** Fills the tape with a text, most of them right, and uses it. */
    private void text(String at) {
        String text = either(random.nextInt(4));
        if (random.nextInt(4) == 0) {
            text = spoiled(text);
        }
        text = text.substring(0, Math.min(60, text.length()));
        CHECKS.due(at + "end(0)", m.end(0), x.end(0));
        for (int from = 0; from < text.length() || random.nextInt(4) == 0; from += 20) {
            int[] f = new int[5];
            for (int i = 0; i < 5; i++) {
                f[i] = Checks.four(text, from + 4 * i);
            }
            CHECKS.due(at + "feed", m.feed(f), x.feed(f[0], f[1], f[2], f[3], f[4]));
        }
        int n = random.nextInt(20) == 0 ? below(61) : text.length();
        CHECKS.due(at + "end", m.end(n), x.end(n));
        use(at + "'" + text + "' ");
    }

    private void use(String at) {
        int h = below(m.holds.size());
        int day = day();
        int what = below(2);
        switch (random.nextInt(4)) {
            case 0 -> CHECKS.due(at + "hold", m.hold(day), x.hold(day));
            case 1 -> CHECKS.due(at + "change", m.change(h), x.change(h));
            default -> CHECKS.due(at + "touch", m.touch(h, what), x.touch(h, what));
        }
        CHECKS.due(at + "fault(0)", m.fault(0), x.fault(0));
        CHECKS.due(at + "fault(1)", m.fault(1), x.fault(1));
        CHECKS.due(at + "about(9)", m.about(9), x.about(9));
    }

    private void question(String at, int kind) {
        int v = below(m.versions.size() + 1);
        int h = below(m.holds.size());
        int day = day();
        if (kind < 4) {
            CHECKS.due(at + "ends", m.ends(h, day), x.ends(h, day));
        } else if (kind < 20) {
            int what = below(8);
            CHECKS.due(at + "versionOf " + what, m.versionOf(v, what), x.versionOf(v, what));
        } else if (kind < 25) {
            int what = below(2);
            int near = random.nextInt(10) == 0 ? day : Math.min(day, m.clock + 30);
            CHECKS.due(at + "would", m.would(near, what), x.would(near, what));
        } else if (kind < 27) {
            CHECKS.due(at + "fits", m.fits(h), x.fits(h));
        } else if (kind < 29) {
            int i = below(10);
            CHECKS.due(at + "fit", m.fit(h, i), x.fit(h, i));
        } else if (kind < 32) {
            int i = below(m.records.size() + 1);
            int what = below(3);
            CHECKS.due(at + "record", m.record(i, what), x.record(i, what));
        } else if (kind < 33) {
            CHECKS.due(at + "chain", m.chain(), x.chain());
        } else {
            int what = random.nextBoolean() ? below(11) : below(101);
            CHECKS.due(at + "about " + what, m.about(what), x.about(what));
        }
    }

    private String either(int depth) {
        String text = both(depth);
        while (random.nextInt(3) == 0) {
            text += blank() + "|" + both(depth);
        }
        return text;
    }

    private String both(int depth) {
        String text = one(depth);
        while (random.nextInt(3) == 0) {
            text += blank() + "&" + one(depth);
        }
        return text;
    }

    private String one(int depth) {
        int kind = random.nextInt(8);
        if (kind == 0) {
            return blank() + "!".repeat(random.nextInt(60) == 0 ? 13 : 1) + one(depth);
        }
        if (kind < 3 && depth > 0) {
            return blank() + "(" + either(depth - 1) + blank() + ")";
        }
        int first = m.clock - random.nextInt(m.clock + 1);
        return blank() + switch (kind) {
            case 3 -> "p" + random.nextInt(10);
            case 4 -> "k" + random.nextInt(6);
            case 5 -> "d" + first + "-" + Math.min(5000, first + random.nextInt(2 * longest));
            case 6 -> random.nextInt(20) == 0 ? "w" + random.nextInt(40) : "w29";
            default -> "w" + random.nextInt(6);
        };
    }

    private String blank() {
        return random.nextInt(6) == 0 ? " " : "";
    }

    /** A byte of the text put in, taken out, or made another one. */
    private String spoiled(String text) {
        int place = random.nextInt(text.length());
        String signs = "wpkd!&|() -0123456789\0\u00ff";
        char other = signs.charAt(random.nextInt(signs.length()));
        String head = text.substring(0, place);
        return switch (random.nextInt(4)) {
            case 0 -> head + text.substring(place + 1);
            case 1 -> head + other + text.substring(place);
            case 2 -> head + "(((((((((((((".substring(random.nextInt(13)) + text.substring(place);
            default -> head + other + text.substring(place + 1);
        };
    }
}
