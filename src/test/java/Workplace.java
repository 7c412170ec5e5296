import java.io.IOException;
import java.nio.charset.StandardCharsets;
import java.nio.file.Files;
import java.nio.file.Path;
import java.util.Comparator;
import java.util.List;
import java.util.stream.Collectors;
import java.util.stream.Stream;

/** A directory that looks like the project's, so that the commands of README.md leave nothing in that itself. */
final class Workplace {
    private final Path root;
    private final Path project;

    Workplace() throws IOException {
        root = Files.createTempDirectory("workplace");
        project = Files.createDirectory(root.resolve("main"));
        link(project.resolve("src"), Path.of("src"));
        link(root.resolve("shared"), Path.of("..", "shared"));
    }

    private static void link(Path name, Path target) throws IOException {
        Files.createSymbolicLink(name, target.toAbsolutePath().normalize());
    }

    void write(String name, String text) throws IOException {
        Files.writeString(project.resolve(name), text, StandardCharsets.UTF_8);
    }

    /** What the commands print, errors too; they end at the first one that fails. */
    String run(String commands) throws IOException, InterruptedException {
        Process process = new ProcessBuilder("sh", "-e", "-c", commands)
                .directory(project.toFile()).redirectErrorStream(true).start();
        String printed = new String(process.getInputStream().readAllBytes(), StandardCharsets.UTF_8);
        int code = process.waitFor();
        return code == 0 ? printed.stripTrailing() : printed + "exit code " + code;
    }

    /** Links are taken away themselves, not what they lead to. */
    void clear() throws IOException {
        List<Path> paths;
        try (Stream<Path> all = Files.walk(root)) {
            paths = all.sorted(Comparator.reverseOrder()).collect(Collectors.toList());
        }
        for (Path path : paths) {
            Files.delete(path);
        }
    }
}
