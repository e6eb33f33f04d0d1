import java.io.IOException;
import java.nio.file.DirectoryStream;
import java.nio.file.Files;
import java.nio.file.Path;
import java.util.ArrayList;
import java.util.Arrays;
import java.util.List;
import java.util.concurrent.TimeUnit;

/** A project of its own under build, with a directory shared beside it, in which commands can be run. */
final class Project {
    private static final Path TRIALS = Path.of("build", "trials");
    private static final int MOST_SECONDS = 300;

    private final Path root;
    private List<String> printed = new ArrayList<>();

    Project(String name) throws IOException {
        root = TRIALS.resolve(name).resolve("project");
        Files.createDirectories(root);
    }

    void write(String file, String text) throws IOException {
        Path path = root.resolve(file);
        Files.createDirectories(path.getParent());
        Files.writeString(path, text);
    }

    void copy(String file) throws IOException {
        write(file, Files.readString(Path.of(file)));
    }

    void copyAll(String directory, String pattern) throws IOException {
        try (DirectoryStream<Path> files = Files.newDirectoryStream(Path.of(directory), pattern)) {
            for (Path file : files) {
                copy(directory + "/" + file.getFileName());
            }
        }
    }

    void copyScript(String file) throws IOException {
        copy(file);
        boolean isExecutable = Files.isExecutable(Path.of(file));
        Check.due(file + " can be made as executable as it was",
                root.resolve(file).toFile().setExecutable(isExecutable), true);
    }

    /** The whole path, as a program's path that is not whole could be looked for in this project instead. */
    String pathOf(String file) {
        return root.resolve(file).toAbsolutePath().normalize().toString();
    }

    /** Runs the command at the root of the project, and returns its exit code. */
    int run(String... command) throws IOException, InterruptedException {
        Path output = root.resolveSibling("output");
        ProcessBuilder builder = new ProcessBuilder(command).directory(root.toFile());
        Process process = builder.redirectErrorStream(true).redirectOutput(output.toFile()).start();
        if (!process.waitFor(MOST_SECONDS, TimeUnit.SECONDS)) {
            process.destroyForcibly();
            return -1;
        }
        printed = Files.readAllLines(output);
        return process.exitValue();
    }

    /** Says what the latest command has printed, if it did not end as it should. */
    void dueExit(String what, int want, String... command) throws IOException, InterruptedException {
        int got = run(command);
        Check.due(what + ": the exit code of " + Arrays.toString(command), got, want);
        if (got != want) {
            printed.forEach(System.out::println);
        }
    }

    List<String> printed() {
        return printed;
    }
}
