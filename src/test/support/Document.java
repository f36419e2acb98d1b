import java.io.IOException;
import java.nio.file.Files;
import java.nio.file.Path;
import java.util.List;

/** The sections of a document, as they stand there. Tests are run in the project's folder. */
final class Document {
    static final Path PROMISES = Path.of("..", "shared", "DOC.md");
    static final Path README = Path.of("README.md");

    private Document() {
    }

    /** What stands below a heading, up to the next one; words that say so if there is none. */
    static String section(Path file, String heading) {
        String document;
        try {
            document = Files.readString(file);
        } catch (IOException e) {
            return "nothing: " + file + " can't be read";
        }
        int found = document.indexOf("\n## " + heading + "\n");
        if (found < 0) {
            return "nothing: " + file + " has no section \"" + heading + "\"";
        }
        int start = found + heading.length() + 5;
        int end = document.indexOf("\n## ", start);
        return document.substring(start, end < 0 ? document.length() : end);
    }

    /** A section's words, with one blank for each row of blanks and lines' ends. */
    static String words(Path file, String heading) {
        return section(file, heading).trim().replaceAll("\\s+", " ");
    }

    static List<String> lines(Path file, String heading) {
        return section(file, heading).lines().toList();
    }
}
