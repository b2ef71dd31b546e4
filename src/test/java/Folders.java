import java.io.IOException;
import java.nio.file.Files;
import java.nio.file.Path;
import java.util.ArrayList;
import java.util.List;
import java.util.stream.Stream;

/** Folders that a test makes for itself, outside the project. */
final class Folders {
    private Folders() {
    }

    static Path make(String name) throws IOException {
        return Files.createTempDirectory(name);
    }

    static void put(Path folder, String name, String text) throws IOException {
        Path file = folder.resolve(name);
        Files.createDirectories(file.getParent());
        Files.writeString(file, text);
    }

    static void remove(Path folder) throws IOException {
        List<Path> paths;
        try (Stream<Path> walk = Files.walk(folder)) {
            paths = new ArrayList<>(walk.toList());
        }
        // a folder comes ahead of what is in it
        for (int i = paths.size() - 1; i >= 0; i--) {
            Files.delete(paths.get(i));
        }
    }

    /** Runs a command in a folder; what it prints goes to the file "printed" there. Returns its exit code. */
    static int run(Path folder, String... command) throws IOException, InterruptedException {
        // apart from each other, for the machine may print notes of its own as errors
        return new ProcessBuilder(command).directory(folder.toFile())
                .redirectOutput(folder.resolve("printed").toFile()).redirectError(folder.resolve("errors").toFile())
                .start().waitFor();
    }
}
