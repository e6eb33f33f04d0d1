import java.io.IOException;
import java.nio.file.Files;
import java.nio.file.Path;
import java.util.Map;
import java.util.Set;
import java.util.TreeMap;
import java.util.TreeSet;
import java.util.regex.Matcher;
import java.util.regex.Pattern;

/** What can be seen of ../shared/LANGUAGE.md in the text of the class; its path is the argument. */
public final class LanguageTest {
    private static final String[] BANNED = {
        "^package ", "->", "::", "\\btry\\b", "\\bcatch\\b", "\\bfinally\\b", "\\bsynchronized\\b", "\\bassert\\b",
        "\\bprotected\\b", "\\bstatic \\{", "Exact\\(", "\\bThread\\b", "\\bRandom\\b", "\\bnanoTime\\b",
        "\\bcurrentTimeMillis\\b", "\\bObject\\b", "\\bString\\b", "\\bequals\\(", "\\bhashCode\\(", "\\btoString\\(",
        "Float\\.", "Double\\.", "Character\\.", "\\bArrays\\.", "\\bstatic (?!final )[^(]*[=;]"
    };

    private static String withoutComments(String source) {
        return source.replaceAll("(?s)/\\*.*?\\*/", "").replaceAll("//[^\n]*", "");
    }

    private static String withoutTexts(String source) {
        return source.replaceAll("\"[^\"\n]*\"", "\"\"").replaceAll("'[^'\n]'", "' '");
    }

    private static void checkThrows(String code) {
        Matcher thrown = Pattern.compile("\\bthrow\\b([^;]*);").matcher(code);
        String due = " new (IllegalStateException|IllegalArgumentException|IndexOutOfBoundsException"
                + "|ArithmeticException|UnsupportedOperationException|NoSuchElementException)\\(\"\"\\)";
        while (thrown.find()) {
            Check.due("throw" + thrown.group(1), thrown.group(1).matches(due), true);
        }
    }

    /** A method from its head to its end; one that bears the name of another counts as one with it. */
    private static final class Method {
        private static final Pattern HEAD = Pattern.compile("( {4}| {8})(?=[a-zA-Z])(?!.*\\bclass\\b)"
                + "(?!(?:if|for|while|switch|else|return|do)\\b)[^(=]*?(\\w+)\\(([^()]*)\\) (?:throws .*)?\\{");
        private static final Pattern CALL = Pattern.compile("(?<!new )\\b(\\w+)\\(");

        private final Set<String> calls = new TreeSet<>();
        private int depth = 0;
    }

    private static void checkMethods(String code) {
        Map<String, Method> methods = new TreeMap<>();
        String[] lines = code.split("\n");
        for (int line = 0; line < lines.length; line++) {
            Matcher head = Method.HEAD.matcher(lines[line]);
            if (head.matches()) {
                String name = head.group(2);
                int end = endOf(lines, line, head.group(1) + "}");
                Check.due(name + " is short", end - line <= 60, true);
                Check.due(name + " takes seven or fewer", head.group(3).split(",").length <= 7, true);
                addCalls(methods.computeIfAbsent(name, key -> new Method()), lines, line + 1, end);
            }
        }
        Check.due("the methods are found", methods.size() > 100, true);
        for (String name : methods.keySet()) {
            Check.due(name + " goes at most eight deep, itself counted", depthOf(name, methods, 1) <= 8, true);
        }
    }

    private static void checkNames(String code) {
        Set<String> hidden = new TreeSet<>();
        Matcher head = Pattern.compile("(?m)^ +private [^(=;]*?(\\w+)\\(").matcher(code);
        while (head.find()) {
            hidden.add(head.group(1));
        }
        Check.due("private methods are found", hidden.size() > 30, true);
        Matcher open = Pattern.compile("(?m)^    public [^(=;]*?(\\w+)\\(").matcher(code);
        while (open.find()) {
            Check.due("a private method bears the name of " + open.group(1), hidden.contains(open.group(1)), false);
        }
    }

    private static int endOf(String[] lines, int head, String last) {
        int end = head;
        while (end + 1 < lines.length && !lines[end].equals(last)) {
            end++;
        }
        return end;
    }

    private static void addCalls(Method method, String[] lines, int from, int to) {
        for (int line = from; line < to; line++) {
            Matcher call = Method.CALL.matcher(lines[line]);
            while (call.find()) {
                method.calls.add(call.group(1));
            }
        }
    }

    /** How deep calls go from the method on; recursion, which would not end here, goes far too deep. */
    private static int depthOf(String name, Map<String, Method> methods, int open) {
        Method method = methods.get(name);
        if (method == null || open > 20) {
            return open > 20 ? open : 0;
        }
        if (method.depth == 0) {
            int deepest = 0;
            for (String called : method.calls) {
                deepest = Math.max(deepest, depthOf(called, methods, open + 1));
            }
            method.depth = deepest + 1;
        }
        return method.depth;
    }

    public static void main(String[] args) throws IOException {
        String source = Files.readString(Path.of(args[0]));
        String code = withoutTexts(withoutComments(source));
        for (String banned : BANNED) {
            Matcher found = Pattern.compile(banned, Pattern.MULTILINE).matcher(code);
            Check.due("has " + banned, found.find() ? found.group() : "", "");
        }
        String imports = code.replaceFirst("import java\\.util\\.NoSuchElementException;", "");
        Check.due("one import", imports.contains("import"), false);
        Check.due("ASCII alone", source.chars().allMatch(sign -> sign < 128), true);
        Check.due("some twelve classes", code.split("\\bclass ").length <= 13, true);
        checkThrows(code);
        checkMethods(code);
        checkNames(code);
        Check.end();
    }
}
