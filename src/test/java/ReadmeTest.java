import java.lang.reflect.Method;
import java.lang.reflect.Modifier;
import java.nio.file.Files;
import java.nio.file.Path;
import java.util.HashMap;
import java.util.List;
import java.util.Map;
import java.util.regex.Matcher;
import java.util.regex.Pattern;

/** README's example gives the answers that stand behind its calls, and README tells every call of the face. */
public final class ReadmeTest {
    private static final Checks CHECKS = new Checks("ReadmeTest");
    private static final Pattern CALL = Pattern.compile("(?:int (\\w+) = )?x\\.(\\w+)\\(([^)]*)\\);\\s*// ([-\\w]+):.*");

    public static void main(String[] args) throws Exception {
        List<String> readme = Files.readAllLines(Path.of("README.md"));
        int from = readme.indexOf("```java");
        int to = from + readme.subList(from, readme.size()).indexOf("```");
        CHECKS.due("the example's first line makes an object", true,
                readme.get(from + 1).equals("PapersHeld x = new PapersHeld();"));
        runTheExample(readme.subList(from + 2, to));
        everyCallIsTold(String.join("\n", readme));
        CHECKS.finish();
    }

    private static void runTheExample(List<String> lines) throws Exception {
        PapersHeld x = new PapersHeld();
        Map<String, Integer> names = new HashMap<>();
        for (String line : lines) {
            Matcher call = CALL.matcher(line);
            CHECKS.due("'" + line + "' is a call with its answer", true, call.matches());
            Method method = method(call.group(2));
            Object answer = method.invoke(x, arguments(call.group(3), method.getParameterCount(), names));
            CHECKS.due("'" + line + "' answers " + answer + ", as it says", true, call.group(4).equals(answer.toString()));
            if (call.group(1) != null) {
                names.put(call.group(1), (Integer) answer);
            }
        }
    }

    private static Method method(String name) {
        for (Method method : PapersHeld.class.getMethods()) {
            if (method.getName().equals(name)) {
                return method;
            }
        }
        throw new IllegalArgumentException("no call " + name);
    }

    private static Object[] arguments(String list, int count, Map<String, Integer> names) {
        Object[] values = new Object[count];
        String[] parts = list.split(", ");
        for (int i = 0; i < count; i++) {
            values[i] = names.containsKey(parts[i]) ? names.get(parts[i]) : Integer.decode(parts[i]);
        }
        return values;
    }

    private static void everyCallIsTold(String readme) {
        for (Method method : PapersHeld.class.getDeclaredMethods()) {
            if (Modifier.isPublic(method.getModifiers())) {
                String told = "(?s).*\\| [^|]*`" + method.getName() + "\\(" + "[^`]*\\)`[^|]* \\|.*";
                CHECKS.due("README tells " + method.getName(), true, readme.matches(told));
            }
        }
    }
}
