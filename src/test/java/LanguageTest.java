import java.nio.file.Files;
import java.nio.file.Path;
import java.util.regex.Matcher;
import java.util.regex.Pattern;

/** What LANGUAGE.md leaves out and can be seen in the text of the class. */
public final class LanguageTest {
    private static final Checks CHECKS = new Checks("LanguageTest");
    private static final String[] WORDS = {"throw", "throws", "try", "catch", "synchronized", "assert", "package",
            "protected", "native", "volatile", "transient", "Exception", "Error", "Object", "Thread", "Random",
            "System.out", "System.err", "Exact", "var"};

    public static void main(String[] args) throws Exception {
        String source = Files.readString(Path.of("src/main/java/PapersHeld.java"));
        String code = source.replaceAll("(?s)/\\*.*?\\*/", "").replaceAll("//[^\n]*", "");
        for (String word : WORDS) {
            CHECKS.due("'" + word + "'", false, Pattern.compile("\\b" + Pattern.quote(word) + "\\b").matcher(code).find());
        }
        CHECKS.due("lambda or arrow", false, code.contains("->"));
        CHECKS.due("method reference", false, code.contains("::"));
        CHECKS.due("text", false, code.contains("\""));
        CHECKS.due("static initialiser", false, Pattern.compile("static\\s*\\{").matcher(code).find());
        CHECKS.due("division", false, Pattern.compile("[/%]").matcher(code).find());
        Matcher imports = Pattern.compile("import ([^;]+);").matcher(code);
        while (imports.find()) {
            CHECKS.due("import " + imports.group(1), true, imports.group(1).equals("java.util.Arrays"));
        }
        Matcher classes = Pattern.compile("\\bclass \\w+").matcher(code);
        int count = 0;
        while (classes.find()) {
            count++;
        }
        CHECKS.due("at most twelve classes, here " + count, true, count <= 12);
        CHECKS.finish();
    }
}
