import java.io.IOException;
import java.nio.charset.StandardCharsets;
import java.nio.file.Files;
import java.nio.file.Path;
import java.nio.file.StandardCopyOption;
import java.util.Comparator;
import java.util.List;
import java.util.stream.Collectors;
import java.util.stream.Stream;

/** A directory for a copy of parts of the project, with ../shared beside it as the project has it. */
final class Copy {
    private final Path room = Files.createTempDirectory("copy");
    final Path project = Files.createDirectories(room.resolve("main"));

    Copy() throws IOException {
    }

    /** A file of the project, or all files under a directory of it. */
    Copy take(String path) throws IOException {
        for (Path from : walk(Path.of(path))) {
            Path to = project.resolve(from.toString());
            if (Files.isDirectory(from)) {
                Files.createDirectories(to);
            } else {
                Files.createDirectories(to.getParent());
                Files.copy(from, to, StandardCopyOption.COPY_ATTRIBUTES);
            }
        }
        return this;
    }

    Copy write(String path, String text) throws IOException {
        Path to = project.resolve(path).normalize();
        Files.createDirectories(to.getParent());
        Files.writeString(to, text);
        return this;
    }

    void remove(String path) throws IOException {
        Files.delete(project.resolve(path).normalize());
    }

    /** What a command printed, what it complained of if it failed, and its exit code in a line behind. */
    String run(String command) throws IOException, InterruptedException {
        return run(command, project);
    }

    String run(String command, Path from) throws IOException, InterruptedException {
        // a file of its own for complaints: a JVM may warn there of its settings, which is no failure
        Path complaints = room.resolve("complaints");
        Process process = new ProcessBuilder(command.split(" ")).directory(from.toFile())
            .redirectError(complaints.toFile()).start();
        String printed = new String(process.getInputStream().readAllBytes(), StandardCharsets.UTF_8);
        int exit = process.waitFor();
        return printed + (exit == 0 ? "" : Files.readString(complaints)) + "exit " + exit;
    }

    void delete() throws IOException {
        List<Path> all = walk(room);
        all.sort(Comparator.reverseOrder());
        for (Path path : all) {
            Files.delete(path);
        }
    }

    private static List<Path> walk(Path from) throws IOException {
        try (Stream<Path> all = Files.walk(from)) {
            return all.collect(Collectors.toList());
        }
    }
}
