import java.io.IOException;

/** The script .ci/run runs every test, and fails if one fails: tried on projects with small tests. */
public final class RunTest {
    private static final String SCRIPT = ".ci/run";
    private static final String MAIN = "src/main/java/BarometerClub.java";
    private static final String CLASS = "public final class BarometerClub { }";
    private static final String SHARED = "../shared/tests/";
    private static final String TESTS = "src/test/java/";
    private static final String[] ALL_TESTS = {
        TESTS + "OneTest", TESTS + "OtherTest", SHARED + "Runs", SHARED + "RunsAgain"
    };
    private static final String ALL_PASSED = "all tests passed";

    private static String nameOf(String file) {
        return file.substring(file.lastIndexOf('/') + 1);
    }

    private static String test(String name, int exitCode) {
        return "public final class " + name + " {\n"
                + "    public static void main(String[] args) {\n"
                + "        BarometerClub club = new BarometerClub();\n"
                + "        System.out.println(\"" + name + " has run\");\n"
                + "        System.exit(club == null ? 2 : " + exitCode + ");\n"
                + "    }\n"
                + "}\n";
    }

    /** A project with two tests of its own and two that are shared, all of which pass. */
    private static Project passing(String name) throws IOException {
        Project project = new Project(name);
        project.copyScript(SCRIPT);
        project.write(MAIN, CLASS);
        for (String file : ALL_TESTS) {
            project.write(file + ".java", test(nameOf(file), 0));
        }
        return project;
    }

    private static void dueFailure(String what, Project project) throws IOException, InterruptedException {
        project.dueExit(what, 1, project.pathOf(SCRIPT));
        Check.due(what + ": all passed", project.printed().contains(ALL_PASSED), false);
    }

    private static void dueAllRun(String what, Project project) {
        for (String file : ALL_TESTS) {
            String line = nameOf(file) + " has run";
            Check.due(what + ": " + line, project.printed().contains(line), true);
        }
    }

    private static void passesIfAllPass() throws IOException, InterruptedException {
        Project project = passing("passing");
        project.dueExit("all pass", 0, project.pathOf(SCRIPT));
        dueAllRun("all pass", project);
        Check.due("all pass: it says so", project.printed().contains(ALL_PASSED), true);
        project.dueExit("all pass again", 0, project.pathOf(SCRIPT));
    }

    private static void failsIfOneFails() throws IOException, InterruptedException {
        for (String file : ALL_TESTS) {
            String name = nameOf(file);
            Project project = passing("failing" + name);
            project.write(file + ".java", test(name, 1));
            dueFailure(name + " fails", project);
            dueAllRun(name + " fails", project);
        }
    }

    private static void failsIfOneDoesNotCompile() throws IOException, InterruptedException {
        for (String file : new String[] {MAIN, TESTS + "OneTest.java", SHARED + "RunsAgain.java"}) {
            Project project = passing("notCompiling" + nameOf(file));
            project.write(file, "public final class");
            dueFailure(file + " does not compile", project);
        }
        Project project = passing("warned");
        project.write(MAIN, CLASS.replace("{ }", "{ private long same(long number) { return (long) number; } }"));
        dueFailure("javac warns of the class", project);
    }

    public static void main(String[] args) throws IOException, InterruptedException {
        passesIfAllPass();
        failsIfOneFails();
        failsIfOneDoesNotCompile();
        Check.end();
    }
}
