import java.lang.reflect.Method;
import java.nio.file.Files;
import java.nio.file.Path;
import java.util.HashSet;
import java.util.Set;
import java.util.regex.Matcher;
import java.util.regex.Pattern;

/** The example of README.md: each call answers the number that stands behind it. */
public final class ReadmeTest {
    private static final Check check = new Check();
    private static final Pattern CALL = Pattern.compile("(?m)^x\\.(\\w+)\\(([^)]*)\\);\\s*// (-?\\d+)\\b");

    public static void main(String[] args) throws Exception {
        check.part("README.md");
        String text = Files.readString(Path.of(System.getProperty("project", "."), "README.md"));
        example(text);
        everyCallIsNamed(text);
        check.end();
    }

    private static void example(String text) throws Exception {
        String start = "```java\n";
        int from = text.indexOf(start) + start.length();
        String block = text.substring(from, text.indexOf("```", from));
        CaseTree x = new CaseTree();
        Matcher call = CALL.matcher(block);
        int calls = 0;
        while (call.find()) {
            calls++;
            String said = call.group(1) + "(" + call.group(2) + ")";
            check.due(said, answer(x, call.group(1), call.group(2)), Long.parseLong(call.group(3)));
        }
        long lines = block.lines().filter(line -> line.startsWith("x.")).count();
        check.holds("every call of the example has an answer behind it", calls > 0 && calls == lines);
    }

    private static long answer(CaseTree x, String name, String arguments) throws Exception {
        String[] words = arguments.isEmpty() ? new String[0] : arguments.split(", ");
        Class<?>[] types = new Class<?>[words.length];
        Object[] values = new Object[words.length];
        for (int i = 0; i < words.length; i++) {
            types[i] = int.class;
            values[i] = Integer.valueOf(words[i]);
        }
        Method method = CaseTree.class.getMethod(name, types);
        return ((Number) method.invoke(x, values)).longValue();
    }

    private static void everyCallIsNamed(String text) {
        Set<String> named = new HashSet<>();
        Matcher name = Pattern.compile("`(\\w+)`").matcher(text);
        while (name.find()) {
            named.add(name.group(1));
        }
        for (Method method : CaseTree.class.getMethods()) {
            if (method.getDeclaringClass() == CaseTree.class) {
                check.holds(method.getName() + " is told of", named.contains(method.getName()));
            }
        }
    }
}
