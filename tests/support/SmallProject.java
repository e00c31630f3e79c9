import java.io.IOException;
import java.nio.file.Files;
import java.nio.file.Path;
import java.util.Comparator;
import java.util.List;
import java.util.stream.Stream;

/** A folder of its own below build/, with a project and a folder of shared tests beside it, in which commands are run. */
final class SmallProject {
    private static final Path HERE = Path.of("").toAbsolutePath();

    /** How a command ended, and what it printed. */
    record Ended(int code, String printed) {
    }

    private final Path folder;

    SmallProject(String name) throws IOException {
        folder = HERE.resolve("build").resolve("small-" + name);
        clear();
        Files.createDirectories(folder.resolve("main"));
    }

    private void clear() throws IOException {
        if (!Files.exists(folder)) {
            return;
        }
        try (Stream<Path> all = Files.walk(folder)) {
            for (Path one : all.sorted(Comparator.reverseOrder()).toList()) {
                Files.delete(one);
            }
        }
    }

    /** A file of this text; the path is from the small project's own folder, ../shared/tests/X.java say. */
    void write(String path, String text) throws IOException {
        Path file = ownPath(path);
        Files.createDirectories(file.getParent());
        Files.writeString(file, text);
    }

    void delete(String path) throws IOException {
        Files.delete(ownPath(path));
    }

    /** A file of the true project, or a folder with all that is in it, at the same place. */
    void copy(String path) throws IOException {
        try (Stream<Path> all = Files.walk(HERE.resolve(path))) {
            for (Path one : all.filter(Files::isRegularFile).toList()) {
                Path to = ownPath(HERE.relativize(one).toString());
                Files.createDirectories(to.getParent());
                Files.copy(one, to);
            }
        }
    }

    /** Runs a command line by line as a shell does that stops at the first one that fails. */
    Ended run(String commands) throws IOException {
        return runFrom("", commands);
    }

    Ended runFrom(String path, String commands) throws IOException {
        ProcessBuilder shell = new ProcessBuilder(List.of("sh", "-e", "-c", commands));
        Process made = shell.directory(ownPath(path).toFile()).redirectErrorStream(true).start();
        made.getOutputStream().close();
        String printed = new String(made.getInputStream().readAllBytes());
        try {
            return new Ended(made.waitFor(), printed);
        } catch (InterruptedException e) {
            throw new IOException(e);
        }
    }

    private Path ownPath(String path) {
        return folder.resolve("main").resolve(path).normalize();
    }
}
