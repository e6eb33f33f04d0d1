import java.io.IOException;
import java.nio.file.Files;
import java.nio.file.Path;
import java.util.regex.Matcher;
import java.util.regex.Pattern;

/** What can be seen of ../shared/LANGUAGE.md in the text of the class; its path is the argument. */
public final class LanguageTest {
    private static final String[] BANNED = {
        "^package ", "->", "::", "\\btry\\b", "\\bcatch\\b", "\\bfinally\\b", "\\bsynchronized\\b", "\\bassert\\b",
        "\\bprotected\\b", "\\bstatic \\{", "Exact\\(", "\\bThread\\b", "\\bRandom\\b", "\\bnanoTime\\b",
        "\\bcurrentTimeMillis\\b", "\\bObject\\b", "\\bString\\b", "\\bequals\\(", "\\bhashCode\\(", "\\btoString\\(",
        "Float\\.", "Double\\.", "Character\\.", "\\bArrays\\.", "\\bstatic (?!final )[^(]*[=;]"
    };

    private static String withoutComments(String source) {
        return source.replaceAll("(?s)/\\*.*?\\*/", "").replaceAll("//[^\n]*", "");
    }

    private static String withoutTexts(String source) {
        return source.replaceAll("\"[^\"\n]*\"", "\"\"").replaceAll("'[^'\n]'", "' '");
    }

    private static void checkThrows(String code) {
        Matcher thrown = Pattern.compile("\\bthrow\\b([^;]*);").matcher(code);
        String due = " new (IllegalStateException|IllegalArgumentException|IndexOutOfBoundsException"
                + "|ArithmeticException|UnsupportedOperationException|NoSuchElementException)\\(\"\"\\)";
        while (thrown.find()) {
            Check.due("throw" + thrown.group(1), thrown.group(1).matches(due), true);
        }
    }

    private static void checkMethodLengths(String source) {
        int start = 0;
        int line = 0;
        for (String text : source.split("\n")) {
            line++;
            if (text.matches("    (    )?(?!private static final class|/)\\S.*\\) (throws .*)?\\{")) {
                start = line;
            }
            if (text.matches("    (    )?\\}") && start > 0) {
                Check.due("the method from line " + start + " is short", line - start <= 60, true);
                start = 0;
            }
        }
    }

    public static void main(String[] args) throws IOException {
        String source = Files.readString(Path.of(args[0]));
        String code = withoutTexts(withoutComments(source));
        for (String banned : BANNED) {
            Matcher found = Pattern.compile(banned, Pattern.MULTILINE).matcher(code);
            Check.due("has " + banned, found.find() ? found.group() : "", "");
        }
        String imports = code.replaceFirst("import java\\.util\\.NoSuchElementException;", "");
        Check.due("one import", imports.contains("import"), false);
        Check.due("ASCII alone", source.chars().allMatch(sign -> sign < 128), true);
        Check.due("some twelve classes", code.split("\\bclass ").length <= 13, true);
        checkThrows(code);
        checkMethodLengths(source);
        Check.end();
    }
}
