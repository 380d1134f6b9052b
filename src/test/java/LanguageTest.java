import java.nio.file.Files;
import java.nio.file.Path;
import java.util.LinkedHashMap;
import java.util.Map;
import java.util.Set;
import java.util.TreeSet;
import java.util.regex.Matcher;
import java.util.regex.Pattern;

/** What LANGUAGE.md leaves out and can be seen in the text of the class. */
public final class LanguageTest {
    private static final Checks CHECKS = new Checks("LanguageTest");
    private static final String[] WORDS = {"throw", "throws", "try", "catch", "synchronized", "assert", "package",
            "protected", "native", "volatile", "transient", "Exception", "Error", "Object", "Thread", "Random",
            "System.out", "System.err", "Exact", "var", "while", "double", "float", "enum", "interface", "instanceof"};
    private static final Set<String> LIBRARY = Set.of("Math.max", "Math.min", "System.arraycopy", "Arrays.fill");
    /** A method's head up to its body, at the indentation of the class or of one inside it. */
    private static final Pattern METHOD = Pattern.compile(
            "(?m)^( {4}| {8})((?:public |private |static )*)(int|boolean|void) (\\w+)\\(([^)]*)\\) \\{");

    public static void main(String[] args) throws Exception {
        String source = Files.readString(Path.of("src/main/java/PapersHeld.java"));
        String code = source.replaceAll("(?s)/\\*.*?\\*/", "").replaceAll("//[^\n]*", "");
        words(code);
        library(code);
        classes(code);
        objectsAreMadeWithTheFields(code);
        methods(code);
        CHECKS.finish();
    }

    private static void words(String code) {
        for (String word : WORDS) {
            CHECKS.due("'" + word + "'", false, Pattern.compile("\\b" + Pattern.quote(word) + "\\b").matcher(code).find());
        }
        CHECKS.due("lambda or arrow", false, code.contains("->"));
        CHECKS.due("method reference", false, code.contains("::"));
        CHECKS.due("text", false, code.contains("\""));
        CHECKS.due("static initialiser", false, Pattern.compile("static\\s*\\{").matcher(code).find());
        CHECKS.due("division", false, Pattern.compile("[/%]").matcher(code).find());
        CHECKS.due("static field that isn't final", false,
                Pattern.compile("static (?!final )\\w+(\\[\\])? \\w+( =|;)").matcher(code).find());
    }

    private static void library(String code) {
        Matcher imports = Pattern.compile("import ([^;]+);").matcher(code);
        while (imports.find()) {
            CHECKS.due("import " + imports.group(1), true, imports.group(1).equals("java.util.Arrays"));
        }
        Matcher used = Pattern.compile("\\b[A-Z]\\w*\\.\\w+(?=\\()").matcher(code);
        while (used.find()) {
            CHECKS.due(used.group() + " is in the list", true, LIBRARY.contains(used.group()));
        }
    }

    private static void classes(String code) {
        Matcher classes = Pattern.compile("(?m)^.*\\bclass (\\w+)").matcher(code);
        int count = 0;
        while (classes.find()) {
            count++;
            String kind = classes.group(1).equals("PapersHeld") ? "public final class " : "    private static final class ";
            CHECKS.due("the class " + classes.group(1), true, classes.group().equals(kind + classes.group(1)));
        }
        CHECKS.due("at most twelve classes, here " + count, true, count <= 12);
    }

    /** Then no call makes an object, and a run needs the room of its new objects alone. */
    private static void objectsAreMadeWithTheFields(String code) {
        for (String line : code.split("\n")) {
            if (line.matches(".*\\bnew\\b.*")) {
                CHECKS.due("'" + line.trim() + "' makes a field", true, line.matches(" +(private )?final \\w+(\\[\\])* \\w+ = new .*;"));
            }
        }
    }

    /** Methods of the same name count as one here. */
    private static void methods(String code) {
        Map<String, String> bodies = new LinkedHashMap<>();
        Matcher heads = METHOD.matcher(code);
        while (heads.find()) {
            String body = code.substring(heads.end(), code.indexOf("\n" + heads.group(1) + "}", heads.end()));
            String name = heads.group(4);
            CHECKS.due(name + " has at most sixty lines", true, body.lines().count() <= 60);
            CHECKS.due(name + " has at most seven parameters", true, heads.group(5).split(",").length <= 7);
            bodies.merge(name, body, (one, other) -> one + other);
        }
        CHECKS.due("methods are found", true, bodies.size() > 25 && bodies.containsKey("readTape"));
        for (String name : bodies.keySet()) {
            CHECKS.due(name + " calls at most eight deep, and never itself", true, depth(name, bodies, 0) <= 8);
        }
    }

    /** How many calls stand open at once at most; a recursion goes on beyond every bound and is cut off. */
    private static int depth(String name, Map<String, String> bodies, int open) {
        int deepest = 0;
        Set<String> called = new TreeSet<>();
        Matcher calls = Pattern.compile("\\b(\\w+)\\(").matcher(bodies.get(name));
        while (calls.find()) {
            called.add(calls.group(1));
        }
        for (String other : called) {
            if (bodies.containsKey(other) && open < 20) {
                deepest = Math.max(deepest, depth(other, bodies, open + 1));
            }
        }
        return deepest + 1;
    }
}
