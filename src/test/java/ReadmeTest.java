import java.io.IOException;
import java.lang.reflect.Method;
import java.nio.file.DirectoryStream;
import java.nio.file.Files;
import java.nio.file.Path;
import java.util.ArrayList;
import java.util.List;
import java.util.Set;
import java.util.TreeSet;
import java.util.regex.Matcher;
import java.util.regex.Pattern;

/** What README.md shows is what the class answers and what the commands do; its path is the third argument. */
public final class ReadmeTest {
    private static final String MAIN = "src/main/java/BarometerClub.java";
    private static final String TESTS = "src/test/java";
    private static final String ALL_TESTS = ".ci/run";
    private static final Pattern ANSWER = Pattern.compile("( *)(club\\.\\w+\\(.*\\)); +// ([^ :]+)(:.*)?");
    private static final Pattern WRITTEN = Pattern.compile(": the characters of (\\S+)");
    private static final Pattern THROWS = Pattern.compile("( *)(club\\.\\w+\\(.*\\)); +// throws (\\w+)");
    private static final Pattern CATCH = Pattern.compile("\\} catch \\(\\w+ (\\w+)\\) \\{");
    private static final Pattern WITHOUT_ANSWER = Pattern.compile("BarometerClub club = new BarometerClub\\(\\);"
            + "|for \\(char character : \"[^\"]*\"\\.toCharArray\\(\\)\\) \\{|    club\\.append\\(character\\);"
            + "|try \\{|\\}");

    private static List<String> linesOf(String readme, String language) {
        List<String> lines = new ArrayList<>();
        Matcher block = Pattern.compile("(?s)\n```" + language + "\n(.*?)\n```\n").matcher(readme);
        while (block.find()) {
            lines.addAll(List.of(block.group(1).split("\n")));
        }
        return lines;
    }

    private static String program(String name, List<String> lines) {
        return "public final class " + name + " {\n    public static void main(String[] args) {\n"
                + String.join("\n", lines) + "\n    }\n}\n";
    }

    /** Prints, for each line with an answer, what the class answers; the answers that are shown are added to due. */
    private static List<String> printing(List<String> lines, List<String> due) {
        List<String> code = new ArrayList<>();
        for (String line : lines) {
            Matcher answer = ANSWER.matcher(line);
            Matcher thrown = THROWS.matcher(line);
            Matcher caught = CATCH.matcher(line);
            if (thrown.matches()) {
                code.add(line);
                due.add(thrown.group(2) + " " + thrown.group(3));
            } else if (answer.matches()) {
                code.add("System.out.println(" + text(answer.group(2) + " ") + " + " + answer.group(2) + ");");
                due.add(answer.group(2) + " " + answer.group(3));
                addWritten(answer.group(3), String.valueOf(answer.group(4)), code, due);
            } else if (caught.matches()) {
                code.add(line);
                code.add("System.out.println(" + text(callOf(due)) + " + " + caught.group(1)
                        + ".getClass().getSimpleName());");
            } else {
                Check.due("it is shown what this line answers: " + line, WITHOUT_ANSWER.matcher(line).matches(), true);
                code.add(line);
            }
        }
        return code;
    }

    /** The line that is shown is read character by character. */
    private static void addWritten(String length, String words, List<String> code, List<String> due) {
        Matcher written = WRITTEN.matcher(words);
        if (written.matches()) {
            Check.due("the length of " + written.group(1), length, "" + written.group(1).length());
            code.add("for (int index = 0; index < " + written.group(1).length() + "; index++) {");
            code.add("    System.out.print(club.character(index));");
            code.add("}");
            code.add("System.out.println();");
            due.add(written.group(1));
        }
    }

    private static String text(String words) {
        return "\"" + words.replace("\\", "\\\\").replace("\"", "\\\"") + "\"";
    }

    private static String callOf(List<String> due) {
        String latest = due.isEmpty() ? "" : due.get(due.size() - 1);
        return latest.substring(0, latest.lastIndexOf(' ') + 1);
    }

    private static void checkAnswers(Project project, List<String> lines) throws IOException, InterruptedException {
        List<String> due = new ArrayList<>();
        project.write("Printing.java", program("Printing", printing(lines, due)));
        project.dueExit("the pieces make a program", 0, "javac", "-d", "build/printing", MAIN, "Printing.java");
        project.dueExit("the program ends", 0, "java", "-cp", "build/printing", "Printing");
        Check.due("answers are shown", due.size() > 30, true);
        Check.due("how many answers", project.printed().size(), due.size());
        for (int answer = 0; answer < Math.min(due.size(), project.printed().size()); answer++) {
            Check.due("README.md, answer " + answer, project.printed().get(answer), due.get(answer));
        }
    }

    /** All commands but that for all tests, which RunTest tries, and which would run this test again. */
    private static void checkCommands(Project project, List<String> commands) throws IOException, InterruptedException {
        Check.due("how all tests are run", commands.contains(ALL_TESTS), true);
        Check.due("it can be run", Files.isExecutable(Path.of(ALL_TESTS)), true);
        for (String command : commands) {
            if (!command.equals(ALL_TESTS)) {
                project.dueExit("README.md shows it", 0, "sh", "-c", command);
            }
        }
    }

    /** A test alone ends with exit code 1 if the class answers wrongly: here who joins comes with a coin too many. */
    private static void checkWrongAnswer(Project project, List<String> commands)
            throws IOException, InterruptedException {
        String right = Files.readString(Path.of(MAIN));
        String wrong = right.replace("FIRST_COINS = 50;", "FIRST_COINS = 51;");
        Check.due("the class can be made wrong", wrong.equals(right), false);
        project.write(MAIN, wrong);
        for (String command : commands) {
            if (command.startsWith("javac -d build/test ")) {
                project.dueExit("it compiles", 0, "sh", "-c", command);
            } else if (command.endsWith(" TermsTest")) {
                project.dueExit("it fails", 1, "sh", "-c", command);
            }
        }
    }

    private static Project copyOfThisOne(String document) throws IOException {
        Project project = new Project("readme");
        project.copy(MAIN);
        project.copy(document);
        project.copyAll(TESTS, "*.java");
        return project;
    }

    private static Set<String> testsOfTheProject() throws IOException {
        Set<String> names = new TreeSet<>();
        try (DirectoryStream<Path> files = Files.newDirectoryStream(Path.of(TESTS), "*Test.java")) {
            for (Path file : files) {
                names.add(file.getFileName().toString().replace(".java", ""));
            }
        }
        return names;
    }

    private static void checkTable(String readme) throws IOException, ClassNotFoundException {
        Set<String> named = new TreeSet<>();
        Matcher row = Pattern.compile("(?m)^\\| `(\\w+)` \\| (.*) \\|$").matcher(readme);
        while (row.find()) {
            named.add(row.group(1));
            checkPromises(row.group(1), row.group(2));
        }
        Check.due("the tests that README.md names", named, testsOfTheProject());
    }

    private static void checkPromises(String test, String what) throws ClassNotFoundException {
        Matcher told = Pattern.compile("sentence by sentence: promises (\\d+) to (\\d+)").matcher(what);
        if (!told.matches()) {
            return;
        }
        Set<Integer> quoted = new TreeSet<>();
        for (Method method : Sentences.of(Class.forName(test))) {
            quoted.add(method.getAnnotation(Sentence.class).promise());
        }
        Set<Integer> due = new TreeSet<>();
        for (int promise = Integer.parseInt(told.group(1)); promise <= Integer.parseInt(told.group(2)); promise++) {
            due.add(promise);
        }
        Check.due("the promises that " + test + " quotes", quoted, due);
    }

    public static void main(String[] args) throws IOException, InterruptedException, ClassNotFoundException {
        String readme = Files.readString(Path.of(args[2]));
        List<String> pieces = linesOf(readme, "java");
        Project project = copyOfThisOne(args[1]);
        checkAnswers(project, pieces);
        project.write("Example.java", program("Example", pieces));
        checkCommands(project, linesOf(readme, "sh"));
        checkWrongAnswer(project, linesOf(readme, "sh"));
        checkTable(readme);
        Check.end();
    }
}
