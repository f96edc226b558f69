import java.io.IOException;
import java.nio.charset.StandardCharsets;
import java.nio.file.Files;
import java.nio.file.Path;
import java.util.Comparator;
import java.util.List;
import java.util.stream.Stream;

/** A project in a folder of its own, with ../shared beside it, in which commands are run; it is gone when it is closed. */
final class Workshop implements AutoCloseable {
    static final String PROGRAM = "src/main/java/BlockCoaster.java";

    /** What a run of commands came to. */
    record Outcome(int exit, String output) {
    }

    private final Path root;
    private final Path project;

    Workshop() throws IOException {
        root = Files.createTempDirectory("workshop");
        project = Files.createDirectory(root.resolve("project"));
        Files.createDirectories(root.resolve("shared/tests"));
    }

    /** The path is told from the project's folder. */
    void write(String path, String text) throws IOException {
        Path file = project.resolve(path);
        Files.createDirectories(file.getParent());
        Files.writeString(file, text);
    }

    /** Copies a file, or all files of a folder, from this project to the same place in that one. */
    void copy(String path) throws IOException {
        for (Path from : filesOf(Path.of(path))) {
            Path to = project.resolve(from.toString());
            Files.createDirectories(to.getParent());
            Files.copy(from, to);
        }
    }

    private static List<Path> filesOf(Path path) throws IOException {
        try (Stream<Path> all = Files.walk(path)) {
            return all.filter(Files::isRegularFile).toList();
        }
    }

    Outcome run(String commands) throws IOException, InterruptedException {
        Process process = new ProcessBuilder("bash", "-e", "-c", commands).directory(project.toFile())
                .redirectErrorStream(true).start();
        process.getOutputStream().close();
        String output = new String(process.getInputStream().readAllBytes(), StandardCharsets.UTF_8);
        return new Outcome(process.waitFor(), output);
    }

    @Override
    public void close() throws IOException {
        try (Stream<Path> all = Files.walk(root)) {
            for (Path path : all.sorted(Comparator.reverseOrder()).toList()) {
                Files.delete(path);
            }
        }
    }
}
