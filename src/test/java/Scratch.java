import java.io.IOException;
import java.nio.file.Files;
import java.nio.file.Path;
import java.util.Comparator;
import java.util.List;
import java.util.stream.Collectors;
import java.util.stream.Stream;

/** A small project of its own beside tests that are shared, on which the command for the tests is tried. */
final class Scratch {
    private final Path place;
    private final Path main;
    private Process process;

    Scratch(Path root, String script) throws IOException {
        place = Files.createTempDirectory("scratch");
        main = place.resolve("main");
        Files.createDirectories(place.resolve("shared/tests"));
        Path copy = main.resolve(script);
        Files.createDirectories(copy.getParent());
        Files.copy(root.resolve(script), copy);
    }

    Scratch with(String file, String text) throws IOException {
        Path path = place.resolve(file);
        Files.createDirectories(path.getParent());
        Files.writeString(path, text);
        return this;
    }

    /** The command is begun where README.md says: in the project's directory. */
    Scratch begin(String command) throws IOException {
        ProcessBuilder builder = new ProcessBuilder("bash", "-c", command).directory(main.toFile());
        builder.redirectErrorStream(true).redirectOutput(place.resolve("said").toFile());
        process = builder.start();
        return this;
    }

    int exitCode() throws InterruptedException {
        return process.waitFor();
    }

    List<String> said() throws IOException {
        return Files.readAllLines(place.resolve("said"));
    }

    void remove() throws IOException {
        remove(place);
    }

    static void remove(Path place) throws IOException {
        List<Path> all;
        try (Stream<Path> walk = Files.walk(place)) {
            all = walk.sorted(Comparator.reverseOrder()).collect(Collectors.toList());
        }
        for (Path path : all) {
            Files.delete(path);
        }
    }
}
