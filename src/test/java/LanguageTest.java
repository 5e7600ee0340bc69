import java.io.IOException;
import java.nio.file.Files;
import java.nio.file.Path;
import java.util.regex.Matcher;
import java.util.regex.Pattern;

/** What of LANGUAGE.md can be seen in the words of the source; its path is the argument. */
public final class LanguageTest {
    private static final Checks CHECKS = new Checks("LanguageTest");
    private static final int LONGEST_METHOD = 60;

    private LanguageTest() { }

    public static void main(String[] args) throws IOException {
        String whole = Files.readString(Path.of(args[0]));
        String code = withoutTextsAndComments(whole);
        CHECKS.so("there is a source", code.contains("public final class ChainLays"));
        for (int i = 0; i < whole.length(); i++) {
            CHECKS.so("sign " + (int) whole.charAt(i), whole.charAt(i) < 127);
        }
        none(code, "\\b(throw|throws|try|catch|finally|synchronized|assert|package|import|native|volatile)\\b");
        none(code, "->|::|\\bnew\\s+\\w+\\s*\\([^)]*\\)\\s*\\{");
        none(code, "\\b(double|float|Object|System\\.(?!arraycopy)\\w+|Thread|Class|Random|Exception|Error)\\b");
        none(code, "\\b\\w+Exact\\b|\\.(equals|hashCode|toString|getClass)\\b");
        none(code, "\\bstatic\\s*\\{");
        none(code, "\"\"\\s*\\+|\\+\\s*\"\"");
        staticFieldsAreFinal(code);
        methodsAreShort(code);
        CHECKS.end();
    }

    private static String withoutTextsAndComments(String whole) {
        return whole.replaceAll("(?s)/\\*.*?\\*/", " ").replaceAll("//[^\n]*", " ")
            .replaceAll("\"(\\\\.|[^\"\\\\])*\"", "\"\"").replaceAll("'(\\\\.|[^'\\\\])'", "' '");
    }

    private static void none(String code, String pattern) {
        Matcher m = Pattern.compile(pattern).matcher(code);
        CHECKS.so("no " + pattern, !m.find());
    }

    private static void staticFieldsAreFinal(String code) {
        Matcher m = Pattern.compile("\\bstatic\\b[^;{(]*[;=]").matcher(code);
        while (m.find()) {
            CHECKS.so("final: " + m.group(), m.group().contains("final"));
        }
    }

    /** A method stands four or eight signs in, and so does its end. */
    private static void methodsAreShort(String code) {
        String[] lines = code.split("\n", -1);
        int start = -1;
        String indent = "";
        for (int i = 0; i < lines.length; i++) {
            Matcher m = Pattern.compile("^(    |        )[a-zA-Z].*\\)\\s*\\{\\s*$").matcher(lines[i]);
            if (start < 0 && m.find() && !lines[i].contains("class ")) {
                start = i;
                indent = m.group(1);
            } else if (start >= 0 && lines[i].stripTrailing().equals(indent + "}")) {
                CHECKS.so("short: " + lines[start].trim(), i - start < LONGEST_METHOD);
                start = -1;
            }
        }
    }
}
