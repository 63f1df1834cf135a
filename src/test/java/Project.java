import java.io.IOException;
import java.nio.file.Files;
import java.nio.file.Path;

/** The files that tests look at; they are run in the project's folder. */
final class Project {
    static final Path SOURCE = Path.of("src/main/java/SlideBonfire.java");
    static final Path README = Path.of("README.md");
    static final Path DOCUMENT = Path.of("../shared/DOC.md");

    private Project() {
    }

    static String read(Path file) {
        try {
            return Files.readString(file);
        } catch (IOException e) {
            throw new IllegalStateException("run the tests in the project's folder, with shared beside it", e);
        }
    }
}
