import java.io.IOException;
import java.nio.file.Files;
import java.nio.file.Path;
import java.util.List;
import java.util.regex.Matcher;
import java.util.regex.Pattern;

/** What can be seen of ../shared/LANGUAGE.md in the text of the class; run where src stands. */
public final class LanguageTest {
    private static final Checks C = new Checks();
    private static final int LONGEST_METHOD = 60;
    private static final String[] NEVER = {"\\bthrow", "\\btry\\b", "\\bcatch\\b", "\\bfinally\\b", "\\bsynchronized\\b",
        "\\bassert\\b", "->", "::", "\\bprotected\\b", "\\bdouble\\b.*%", "\\bString\\b", "\\bObject\\b", "\\bSystem\\.(?!arraycopy)",
        "\\bMath\\.(?!min|max|abs)\\w", "\\bArrays\\.(?!fill)\\w", "Exact\\b", "\"", "\\bpackage\\b", "\\bstatic \\{", "@",
        "\\bwhile \\(true\\)", "\\bfor \\(;;", "\\binterface\\b", "\\bextends\\b", "\\bimplements\\b", "\\bThread\\b", "\\bnative\\b"};

    public static void main(String[] args) throws IOException {
        Path file = Path.of("src", "main", "java", "PenLines.java");
        String text = Files.readString(file);
        C.isTrue("signs are 1 to 127", text.chars().allMatch(sign -> sign >= 1 && sign <= 127));
        String code = withoutComments(text);
        for (String never : NEVER) {
            Matcher found = Pattern.compile(never).matcher(code);
            C.isTrue("no " + never + " in the class", !found.find());
        }
        Matcher imports = Pattern.compile("(?m)^import (.*);$").matcher(code);
        while (imports.find()) {
            C.isTrue("import " + imports.group(1), imports.group(1).equals("java.util.Arrays"));
        }
        madeOnlyAsFields(code);
        methodsAreShort(code.lines().toList());
        C.end("LanguageTest");
    }

    private static String withoutComments(String text) {
        return text.replaceAll("(?s)/\\*.*?\\*/", "").replaceAll("//[^\n]*", "");
    }

    /** Every object and array is made with its PenLines: no call makes one. */
    private static void madeOnlyAsFields(String code) {
        for (String line : code.lines().toList()) {
            if (line.contains("new ")) {
                C.isTrue("a field makes it: " + line.strip(), line.strip().matches("(private )?final [\\w\\[\\]]+ \\w+ = new .*"));
            }
        }
    }

    private static void methodsAreShort(List<String> lines) {
        int from = -1;
        for (int k = 0; k < lines.size(); k++) {
            String line = lines.get(k);
            if (line.matches("( {4}| {8})[\\w\\[\\] ]*\\w+\\(.*\\) \\{") && !line.contains("class")) {
                from = k;
            }
            if (from >= 0 && line.matches("( {4}| {8})\\}") && line.indexOf('}') == indent(lines.get(from))) {
                C.isTrue("short: " + lines.get(from).strip(), k - from < LONGEST_METHOD);
                from = -1;
            }
        }
    }

    private static int indent(String line) {
        return line.length() - line.stripLeading().length();
    }
}
