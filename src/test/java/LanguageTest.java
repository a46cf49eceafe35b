import java.io.IOException;
import java.nio.file.Files;
import java.nio.file.Path;
import java.util.List;
import java.util.Set;
import java.util.regex.Matcher;
import java.util.regex.Pattern;

/** What ../shared/LANGUAGE.md rules out and can be seen in the text of the class; run from the project's folder. */
public final class LanguageTest {
    private static final Path SOURCE = Path.of("src/main/java/TenancyDeposits.java");
    /** The class answers by numbers alone and keeps no list and no String, so it needs none of these. */
    private static final String[] NOT_THERE = {
        "\\bimport\\b", "\\bpackage\\b", "\\btry\\b", "\\bcatch\\b", "\\bthrows?\\b", "\\bfinally\\b",
        "\\bsynchronized\\b", "\\bassert\\b", "\\bnative\\b", "\\bvar\\b", "->", "::", "\\binstanceof\\b",
        "\\bprotected\\b", "\\bdouble\\b", "\\bString\\b", "\\bObject\\b", "\\bSystem\\b", "\\bFloat\\b",
        "\\bwhile \\(true\\)", "\\bfor \\(;;\\)", "Exact\\b", "\\bjava\\.", "\\bstatic \\{", "\""};

    public static void main(String[] args) throws IOException {
        List<String> lines = Files.readAllLines(SOURCE);
        String code = withoutComments(String.join("\n", lines));
        for (String pattern : NOT_THERE) {
            Check.dueTrue("nothing of " + pattern, !Pattern.compile(pattern).matcher(code).find());
        }
        Check.dueTrue("only signs 1 to 127", code.chars().allMatch(sign -> sign < 128));
        library(code);
        Check.dueTrue("at most twelve classes", count(code, "\\bclass \\w+") <= 12);
        Check.dueTrue("one public class", count(code, "\\bpublic (final )?class\\b") == 1);
        methodsAreShort(lines);
        Check.end("LanguageTest");
    }

    private static String withoutComments(String text) {
        return text.replaceAll("(?s)/\\*.*?\\*/", "").replaceAll("//[^\n]*", "");
    }

    private static int count(String code, String pattern) {
        Matcher matcher = Pattern.compile(pattern).matcher(code);
        int found = 0;
        while (matcher.find()) {
            found++;
        }
        return found;
    }

    private static void library(String code) {
        Set<String> used = Set.of("Math.max", "Math.min");
        Matcher matcher = Pattern.compile("\\b[A-Z][a-z]\\w*\\.\\w+").matcher(code);
        while (matcher.find()) {
            Check.dueTrue("the library's " + matcher.group(), used.contains(matcher.group()));
        }
    }

    private static void methodsAreShort(List<String> lines) {
        int start = -1;
        String indent = "";
        Pattern head = Pattern.compile("^(    |        )(?!(if|for|while|switch|else|\\}))\\S.*\\(.*\\) \\{$");
        for (int n = 0; n < lines.size(); n++) {
            Matcher matcher = head.matcher(lines.get(n));
            if (start < 0 && matcher.matches()) {
                start = n;
                indent = matcher.group(1);
            } else if (start >= 0 && lines.get(n).equals(indent + "}")) {
                Check.dueTrue("short: " + lines.get(start).trim(), n - start <= 60);
                start = -1;
            }
        }
    }
}
