import java.io.IOException;
import java.nio.file.Files;
import java.nio.file.Path;
import java.util.List;
import java.util.regex.Matcher;
import java.util.regex.Pattern;

/** Words that LANGUAGE.md rules out, and the length of methods; run from the project's root. */
final class LanguageTest {
    private static final Path PROGRAM = Path.of("src/main/java/CompatibilityJudge.java");
    private static final Pattern RULED_OUT = Pattern.compile(
            "\\b(package|throw|throws|try|catch|synchronized|assert|System\\.(?!arraycopy)"
            + "|import (?!java\\.util\\.(ArrayList|List|Arrays|Iterator);)"
            + "|hashCode|protected|volatile|native|Random|Thread|\\w+Exact)\\b|::");
    private static final Pattern LAMBDA = Pattern.compile("(?m)^(?!\\s*(case|default)\\b).*->");
    private static final Pattern HEAD = Pattern.compile(
            "^( +)(?!if\\b|for\\b|while\\b|do\\b|switch\\b|else\\b|return\\b)[a-zA-Z].*\\) \\{$");
    private static final int LONGEST = 60;

    public static void main(String[] args) throws IOException {
        String code = Files.readString(PROGRAM).replaceAll("(?s)/\\*.*?\\*/", "")
                .replaceAll("//[^\n]*", "");
        dueNone(RULED_OUT.matcher(code));
        dueNone(LAMBDA.matcher(code));
        Check.due(code.chars().filter(c -> c > 127).count(), 0);
        methodsStayShort(Files.readAllLines(PROGRAM));
        Check.end();
    }

    private static void dueNone(Matcher matcher) {
        while (matcher.find()) {
            Check.tell("LANGUAGE.md rules out " + matcher.group());
        }
    }

    private static void methodsStayShort(List<String> lines) {
        int methods = 0;
        for (int start = 0; start < lines.size(); start++) {
            Matcher head = HEAD.matcher(lines.get(start));
            if (head.find()) {
                methods++;
                int end = lines.subList(start, lines.size()).indexOf(head.group(1) + "}");
                Check.due(end > 0 && end <= LONGEST ? 1 : 0, 1);
            }
        }
        Check.due(methods > 16 ? 1 : 0, 1);
    }
}
