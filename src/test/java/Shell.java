import java.io.IOException;
import java.io.UncheckedIOException;
import java.nio.file.Files;
import java.nio.file.Path;
import java.util.Comparator;
import java.util.List;
import java.util.stream.Stream;

/** A directory of its own in which commands run; nothing of it stays. */
final class Shell implements AutoCloseable {
    private final Path place;
    private String printed = "";

    Shell() throws IOException {
        place = Files.createTempDirectory("skew");
    }

    void write(String file, List<String> lines) throws IOException {
        Path path = place.resolve(file);
        Files.createDirectories(path.getParent());
        Files.write(path, lines);
    }

    /** A file of this project, at the same place or at another one. */
    void copy(String file, String to) throws IOException {
        Path path = place.resolve(to);
        Files.createDirectories(path.getParent());
        Files.copy(Path.of(file), path);
    }

    void delete(String file) throws IOException {
        Files.delete(place.resolve(file));
    }

    /** Runs a command, and answers its exit code. */
    int run(String command) throws IOException, InterruptedException {
        Process process = new ProcessBuilder("sh", "-c", command).directory(place.toFile()).redirectErrorStream(true).start();
        process.getOutputStream().close();
        printed = new String(process.getInputStream().readAllBytes());
        return process.waitFor();
    }

    /** What the last command printed. */
    String printed() {
        return printed;
    }

    @Override
    public void close() throws IOException {
        try (Stream<Path> all = Files.walk(place)) {
            all.sorted(Comparator.reverseOrder()).forEach(Shell::remove);
        }
    }

    private static void remove(Path path) {
        try {
            Files.delete(path);
        } catch (IOException failed) {
            throw new UncheckedIOException(failed);
        }
    }
}
