import java.io.IOException;
import java.lang.reflect.Method;
import java.lang.reflect.Modifier;
import java.nio.file.Files;
import java.nio.file.Path;
import java.util.List;
import java.util.Map;
import java.util.Set;
import java.util.TreeMap;
import java.util.TreeSet;
import java.util.regex.Matcher;
import java.util.regex.Pattern;

/** The calls that README.md shows, with the answers that it tells; run from the project's root. */
final class ReadmeTest {
    private static final Path README = Path.of("README.md");
    private static final String NEW_OBJECT =
            "CompatibilityJudge judge = new CompatibilityJudge();";
    private static final Pattern CALL = Pattern.compile(
            "judge\\.(\\w+)\\(([^()]*)\\); +// (-?\\d+|REFUSED|nothing)(: \\S.*)?");
    private static final Pattern TABLE_ROW = Pattern.compile("\\| `(\\w+)\\(([^()]*)\\)` \\|.*");

    /** Those that README.md says are never refused. */
    private static final Set<String> NEVER_REFUSED =
            new TreeSet<>(List.of("copy", "swap", "findings", "verdict"));

    private static final Map<String, Method> FACE = new TreeMap<>();
    private static final Set<String> SHOWN = new TreeSet<>();
    private static final Set<String> SHOWN_REFUSED = new TreeSet<>();
    private static CompatibilityJudge judge = null;
    private static int calls = 0;

    public static void main(String[] args) throws IOException, ReflectiveOperationException {
        for (Method method : CompatibilityJudge.class.getDeclaredMethods()) {
            if (Modifier.isPublic(method.getModifiers())) {
                FACE.put(method.getName(), method);
            }
        }
        List<String> lines = Files.readAllLines(README);
        table(lines);
        examples(lines);
        Check.same(SHOWN.toString(), FACE.keySet().toString());
        Set<String> refusable = new TreeSet<>(FACE.keySet());
        refusable.removeAll(NEVER_REFUSED);
        Check.same(SHOWN_REFUSED.toString(), refusable.toString());
        Check.end();
    }

    /** The table has every call of the face once, with as many parameters. */
    private static void table(List<String> lines) {
        Set<String> rows = new TreeSet<>();
        for (String line : lines) {
            Matcher row = TABLE_ROW.matcher(line);
            if (row.matches()) {
                Check.due(rows.add(row.group(1)) ? 1 : 0, 1);
                Method method = FACE.get(row.group(1));
                Check.due(split(row.group(2)).length,
                        method == null ? -1 : method.getParameterCount());
            }
        }
        Check.same(rows.toString(), FACE.keySet().toString());
    }

    /** Every line of a Java block is read, so that no call is shown without being made here. */
    private static void examples(List<String> lines) throws ReflectiveOperationException {
        boolean inside = false;
        for (int i = 0; i < lines.size(); i++) {
            String line = lines.get(i);
            if (line.startsWith("```")) {
                inside = line.equals("```java");
            } else if (inside && !line.isEmpty()) {
                exampleLine(line, "README.md:" + (i + 1) + " " + line + " -> ");
            } else if (line.contains("judge.")) {
                Check.tell("a call outside a Java block: " + line);
            }
        }
    }

    private static void exampleLine(String line, String where)
            throws ReflectiveOperationException {
        if (line.equals(NEW_OBJECT)) {
            judge = new CompatibilityJudge();
            calls = 0;
            return;
        }
        Matcher call = CALL.matcher(line);
        Method method = call.matches() ? FACE.get(call.group(1)) : null;
        if (judge == null || method == null) {
            Check.tell(where + "no call with an answer");
            return;
        }
        calls++;
        Check.due(calls <= Judge.CALLS ? 1 : 0, 1);
        Object answer = method.invoke(judge, arguments(split(call.group(2))));
        (call.group(3).equals("REFUSED") ? SHOWN_REFUSED : SHOWN).add(call.group(1));
        Check.same(where + answer, where + told(call.group(3)));
    }

    private static String[] split(String parameters) {
        return parameters.isEmpty() ? new String[0] : parameters.split(", ");
    }

    private static Object[] arguments(String[] words) {
        Object[] arguments = new Object[words.length];
        for (int i = 0; i < words.length; i++) {
            boolean isTruth = words[i].equals("true") || words[i].equals("false");
            arguments[i] = isTruth ? (Object) words[i].equals("true") : Integer.valueOf(words[i]);
        }
        return arguments;
    }

    private static String told(String word) {
        if (word.equals("nothing")) {
            return "null";
        }
        return word.equals("REFUSED") ? String.valueOf(CompatibilityJudge.REFUSED) : word;
    }
}
