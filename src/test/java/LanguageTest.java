import java.nio.file.Files;
import java.nio.file.Path;
import java.util.regex.Matcher;
import java.util.regex.Pattern;

/** Some rules of ../shared/LANGUAGE.md that can be seen in the text of the program. */
final class LanguageTest {
    private static final String[] FORBIDDEN = {
        "\\bthrow\\b", "\\btry\\b", "\\bcatch\\b", "\\bsynchronized\\b", "\\bassert\\b", "\\bimport\\b", "\\bpackage\\b",
        "->", "::", "\\bequals\\b", "\\bhashCode\\b", "\\btoString\\b", "\\bprotected\\b", "\\bstatic \\{",
        "\\bSystem\\.(?!arraycopy\\b)", "\\bMath\\.(?!min\\b|max\\b)",
        "\\bInteger\\b", "\\bLong\\b", "\\bString\\b", "\\bRandom\\b", "\\bThread\\b"};

    static void test(Check check, String file) throws Exception {
        check.about("language");
        String code = withoutComments(Files.readString(Path.of(file)));
        for (String word : FORBIDDEN) {
            check.holds("no " + word, !Pattern.compile(word).matcher(code).find());
        }
        check.holds("only signs 1 to 127", code.chars().allMatch(sign -> sign > 0 && sign < 128));
        madeInConstructorsAlone(check, code);
        shortMethods(check, code);
    }

    private static String withoutComments(String code) {
        return code.replaceAll("(?s)/\\*.*?\\*/", "").replaceAll("//[^\n]*", "");
    }

    /** The room is one for all calls: fields and constructors make the rows, and no call makes more. */
    private static void madeInConstructorsAlone(Check check, String code) {
        Matcher made = Pattern.compile("(?m)^.*\\bnew\\b.*$").matcher(code);
        while (made.find()) {
            String line = made.group().trim();
            check.holds("made once: " + line, line.matches("(private )?final .*")
                    || line.matches("(past|arms|lines)\\[i\\] = new (Harbour|Arm|Line)\\(\\);"));
        }
    }

    private static void shortMethods(Check check, String code) {
        int begun = 0;
        String[] lines = code.split("\n");
        for (int i = 0; i < lines.length; i++) {
            boolean opens = lines[i].matches(" {4,8}[^ =].*\\) \\{");
            begun = opens ? i : begun;
            if (lines[i].matches(" {4,8}\\}")) {
                check.holds("short: " + lines[begun].trim(), i - begun <= 60);
            }
        }
    }

    private LanguageTest() {
    }
}
