import java.nio.charset.StandardCharsets;
import java.nio.file.Files;
import java.nio.file.Path;
import java.util.List;

/** The plainest of the rules of ../shared/LANGUAGE.md, looked up in the source's text. */
public final class SourceTest {
    private static final String[] FORBIDDEN = {
        "->", "::", "\\btry\\b", "\\bcatch\\b", "\\bfinally\\b", "\\bsynchronized\\b",
        "\\bassert\\b", "\\bvar\\b", "static \\{", "Exact\\b", "\\bSystem\\.(?!arraycopy\\()",
        "\\b(equals|hashCode|toString)\\(", "\\bpackage\\b", "Exception \\w+\\)", "\\bRandom\\b",
        "\\bThread\\b", "\\bextends (Runtime|Illegal|Index)", "\" \\+|\\+ \"",
    };

    public static void main(String[] args) throws Exception {
        Check check = new Check("SourceTest");
        List<String> lines = Files.readAllLines(
            Path.of("src/main/java/ParkingRules.java"), StandardCharsets.UTF_8);
        int methodFrom = 0;
        int classes = 0;
        boolean inConstructor = false;
        for (int i = 0; i < lines.size(); i++) {
            String line = lines.get(i);
            String code = line.replaceAll("//.*|^ *(/\\*\\*|\\*).*", "");
            String where = "line " + (i + 1);
            check.same(where + " is ASCII", "true", "" + line.matches("[\\x20-\\x7e]*"));
            check.same(where + " is short", "true", "" + (line.length() <= 100));
            for (String pattern : FORBIDDEN) {
                boolean found = java.util.regex.Pattern.compile(pattern).matcher(code).find();
                check.same(where + " has " + pattern, "false", "" + found);
            }
            if (code.startsWith("import")) {
                check.same(where, "import java.util.Arrays;", code);
            }
            if (code.matches(" {4}(private )?static final class .*")) {
                classes++;
            }
            if (code.matches(" {4,8}[^ ].*\\) ?(throws .*)?\\{|.* throws [^;]*\\{")) {
                methodFrom = i;
                inConstructor = code.matches(" {4,8}(public )?[A-Z]\\w*\\(.*");
            }
            // Rule 12 counts what a run makes: calls make nothing but what they throw.
            if (code.contains("new ")) {
                check.same(where + " makes an object in a constructor or throws it", "true",
                    "" + (inConstructor || code.contains("throw new ")));
            }
            if (code.matches(" {4,8}\\}")) {
                check.same(where + " ends a short method", "true",
                    "" + (i - methodFrom <= 60));
            }
        }
        check.same("the file has few classes", "true", "" + (classes + 1 <= 12));
        check.end();
    }
}
