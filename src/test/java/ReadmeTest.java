import java.io.IOException;
import java.lang.reflect.InvocationTargetException;
import java.lang.reflect.Method;
import java.lang.reflect.Modifier;
import java.nio.file.Files;
import java.nio.file.Path;
import java.util.Set;
import java.util.TreeSet;
import java.util.regex.Matcher;
import java.util.regex.Pattern;

/** README.md tells the truth: its example answers as it says, and its tables have each call, and no other. */
public final class ReadmeTest {
    private static final Pattern ASKED = Pattern.compile("^year\\.(\\w+)\\(([-\\d, ]*)\\);\\s+// (-?\\d+)\\b");
    private static final Pattern ROW = Pattern.compile("(?m)^\\| `(\\w+)\\(([a-z, ]*)\\)` \\|");

    public static void main(String[] args) throws IOException, IllegalAccessException, InvocationTargetException {
        String readme = Files.readString(Path.of("README.md"));
        example(readme.substring(readme.indexOf("```java") + 7, readme.indexOf("```\n\n## Its calls")));
        rows(readme);
        Check.due("the one command", readme.contains("```sh\nbash .ci/run\n```") ? 1 : 0, 1);
        Check.finish();
    }

    private static void example(String block) throws IllegalAccessException, InvocationTargetException {
        LotNobodyWants year = new LotNobodyWants();
        int asked = 0;
        for (String line : block.split("\n")) {
            Matcher m = ASKED.matcher(line);
            if (m.find()) {
                asked++;
                Check.due(line, ask(year, m.group(1), m.group(2)), Long.parseLong(m.group(3)));
            } else {
                boolean isOther = line.isEmpty() || line.startsWith("LotNobodyWants year = new LotNobodyWants();");
                Check.due("a line that asks and answers: " + line, isOther ? 1 : 0, 1);
            }
        }
        Check.due("the example asks something", asked > 20 ? 1 : 0, 1);
    }

    private static long ask(LotNobodyWants year, String name, String told)
            throws IllegalAccessException, InvocationTargetException {
        String[] words = told.isEmpty() ? new String[0] : told.split(", ");
        for (Method method : LotNobodyWants.class.getDeclaredMethods()) {
            if (isCall(method) && method.getName().equals(name) && method.getParameterCount() == words.length) {
                Object[] values = new Object[words.length];
                for (int k = 0; k < words.length; k++) {
                    boolean isLong = method.getParameterTypes()[k] == long.class;
                    values[k] = isLong ? (Object) Long.valueOf(words[k]) : (Object) Integer.valueOf(words[k]);
                }
                return ((Number) method.invoke(year, values)).longValue();
            }
        }
        return LotNobodyWants.VOID;
    }

    private static boolean isCall(Method method) {
        return Modifier.isPublic(method.getModifiers());
    }

    private static void rows(String readme) {
        Set<String> told = new TreeSet<>();
        Matcher m = ROW.matcher(readme);
        int rows = 0;
        while (m.find()) {
            rows++;
            told.add(m.group(1) + " " + (m.group(2).isEmpty() ? 0 : m.group(2).split(", ").length));
        }
        Set<String> calls = new TreeSet<>();
        for (Method method : LotNobodyWants.class.getDeclaredMethods()) {
            if (isCall(method)) {
                calls.add(method.getName() + " " + method.getParameterCount());
            }
        }
        Check.due("rows of calls", rows, calls.size());
        Check.due("each call and no other: " + told, told.equals(calls) ? 1 : 0, 1);
    }
}
