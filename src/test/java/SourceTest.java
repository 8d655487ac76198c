import java.io.IOException;
import java.nio.file.Files;
import java.nio.file.Path;
import java.util.List;
import java.util.regex.Matcher;
import java.util.regex.Pattern;

/** What of LANGUAGE.md can be seen from the text of the class alone. Its argument is the file's path. */
public final class SourceTest {
    private static final String[] NOWHERE = {"->", "::", "\\bfinally\\b", "\\bsynchronized\\b", "\\bassert\\b",
        "\\bcatch\\b", "\\btry\\b", "static \\{", "\\bpackage\\b", "\\bprotected\\b", "\\bdouble\\b", "\\bfloat\\b",
        "Exact\\(", "[^\\x00-\\x7F]"};
    private static final Pattern METHOD = Pattern.compile("^( +)(?:public|private) [^=;]*\\(([^)]*)\\)[^;]*\\{$");

    public static void main(String[] args) throws IOException {
        List<String> lines = Files.readAllLines(Path.of(args[0]));
        String code = String.join("\n", lines).replaceAll("(?s)/\\*.*?\\*/", "").replaceAll("//[^\n]*", "");
        for (String pattern : NOWHERE) {
            Check.due("found " + pattern, Pattern.compile(pattern).matcher(code).find(), false);
        }
        Check.due("imports", found(code, "\\bimport\\b"), 1);
        Check.due("the import", found(code, "import java.util.NoSuchElementException;"), 1);
        Check.due("throws but yard's", found(code, "\\bthrow\\b"), 1);
        Check.due("some twelve classes", found(code, "\\b(class|record|enum|interface) [A-Z]") <= 12, true);
        methods(lines);
        Check.finish();
    }

    private static int found(String code, String pattern) {
        Matcher m = Pattern.compile(pattern).matcher(code);
        int n = 0;
        while (m.find()) {
            n++;
        }
        return n;
    }

    private static void methods(List<String> lines) {
        for (int i = 0; i < lines.size(); i++) {
            Matcher m = METHOD.matcher(lines.get(i));
            if (!m.find()) {
                continue;
            }
            int end = i;
            while (!lines.get(end).equals(m.group(1) + "}")) {
                end++;
            }
            Check.due("sixty lines at most: " + lines.get(i), end - i <= 60, true);
            Check.due("seven parameters at most: " + lines.get(i), m.group(2).split(",").length <= 7, true);
        }
    }
}
