import java.lang.reflect.Constructor;
import java.lang.reflect.Field;
import java.lang.reflect.Method;
import java.lang.reflect.Modifier;
import java.nio.file.Files;
import java.nio.file.Path;
import java.util.Arrays;
import java.util.List;
import java.util.Set;
import java.util.TreeSet;

/** The face is the document's, and nothing else of the class can be seen from outside. */
public final class FaceTest {
    private static final Checks CHECKS = new Checks("FaceTest");
    private static final Set<String> FACE = Set.of("int thing(int,int)", "int version(int,int,int)",
            "int gives(int,int)", "boolean copy(int,int)", "boolean move(int,int,int)", "boolean broken(int,boolean)",
            "int backup(int)", "int restore(int)", "int feed(int,int,int,int,int)", "int end(int)", "int hold(int)",
            "int fault(int)", "boolean ends(int,int)", "int touch(int,int)", "boolean change(int)",
            "int rule(int,int)", "boolean forget(int)", "int days(int)", "int versionOf(int,int)",
            "int would(int,int)", "int fits(int)", "int fit(int,int)", "int record(int,int)", "int chain()",
            "int about(int)");

    public static void main(String[] args) throws Exception {
        Class<?> face = PapersHeld.class;
        CHECKS.due("public and final", Modifier.PUBLIC | Modifier.FINAL, face.getModifiers());
        CHECKS.due("NONE", -1, PapersHeld.NONE);
        methods(face);
        fields(face);
        listIsTheDocuments();
        for (Constructor<?> made : face.getDeclaredConstructors()) {
            CHECKS.due("constructor's parameters", 0, made.getParameterCount());
            CHECKS.due("constructor is public", true, Modifier.isPublic(made.getModifiers()));
        }
        for (Class<?> inside : face.getDeclaredClasses()) {
            CHECKS.due(inside + " is static", true, Modifier.isStatic(inside.getModifiers()));
            CHECKS.due(inside + " is not public", false, Modifier.isPublic(inside.getModifiers()));
        }
        CHECKS.finish();
    }

    private static void methods(Class<?> face) {
        Set<String> seen = new TreeSet<>();
        Set<String> names = new TreeSet<>();
        FACE.forEach(line -> names.add(line.substring(line.indexOf(' ') + 1, line.indexOf('('))));
        for (Method method : face.getDeclaredMethods()) {
            if (Modifier.isPrivate(method.getModifiers())) {
                CHECKS.due("private " + method.getName(), false, names.contains(method.getName()));
            } else {
                String parameters = Arrays.toString(method.getParameterTypes()).replaceAll("[\\[\\] ]", "");
                seen.add(method.getReturnType() + " " + method.getName() + "(" + parameters + ")");
                CHECKS.due(method + " is public", true, method.getModifiers() == Modifier.PUBLIC);
            }
        }
        CHECKS.due("methods, seen " + seen, true, seen.equals(FACE));
    }

    private static void fields(Class<?> face) {
        for (Field field : face.getDeclaredFields()) {
            boolean isPrivate = Modifier.isPrivate(field.getModifiers());
            CHECKS.due("field " + field.getName(), true, isPrivate != field.getName().equals("NONE"));
        }
    }

    /** The list above is written down once more, so that it is there without the document too. */
    private static void listIsTheDocuments() throws Exception {
        Path document = Path.of("../shared/DOC.md");
        if (!Files.isReadable(document)) {
            System.out.println("no " + document + ": the face was not compared with it");
            return;
        }
        List<String> lines = Files.readAllLines(document);
        int from = lines.indexOf("```java");
        Set<String> told = new TreeSet<>();
        for (String line : lines.subList(from, from + lines.subList(from, lines.size()).indexOf("```"))) {
            if (line.matches("    public \\w+ \\w+\\(.*\\);")) {
                told.add(line.replaceAll(" \\w+([,)])", "$1").replace(", ", ",").replaceAll("    public (.*);", "$1"));
            }
        }
        CHECKS.due("methods, told " + told, true, told.equals(FACE));
    }
}
