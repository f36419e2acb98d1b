import java.io.IOException;
import java.nio.file.Files;
import java.nio.file.Path;
import java.util.ArrayList;
import java.util.List;

/**
 * Tests that bear a promise's number and the document's sentence. The sentences of a section,
 * one behind the other, must be the section: none is without a test, and none is made up.
 */
final class Sentences {
    private static final Path DOCUMENT = Path.of("..", "shared", "DOC.md");

    private static final List<String> quoted = new ArrayList<>();
    private static String section = "";

    private Sentences() {
    }

    static void section(String heading) {
        end();
        section = heading;
    }

    static void test(int promise, String sentence, Runnable... tests) {
        quoted.add(sentence);
        Check.about("promise " + promise + ", \"" + sentence + "\": ");
        for (Runnable test : tests) {
            try {
                test.run();
            } catch (RuntimeException e) {
                Check.due("the test, at " + e.getStackTrace()[0] + ",", e.toString(), "an answer");
            }
        }
    }

    static void end() {
        if (!section.isEmpty()) {
            Check.about("section \"" + section + "\": ");
            Check.due("the sentences that have a test", String.join(" ", quoted), inDocument());
        }
        section = "";
        quoted.clear();
    }

    /** A section's words, each blank or line's end one blank, without a promise's signature. */
    private static String inDocument() {
        String document;
        try {
            document = Files.readString(DOCUMENT);
        } catch (IOException e) {
            return "in " + DOCUMENT + ", which can't be read";
        }
        int heading = document.indexOf("\n## " + section + "\n");
        if (heading < 0) {
            return "a section that is not in " + DOCUMENT;
        }
        int start = heading + section.length() + 5;
        int end = document.indexOf("\n## ", start);
        String words = document.substring(start, end < 0 ? document.length() : end);
        words = words.trim().replaceAll("\\s+", " ");
        return section.startsWith("Promise ") ? words.substring(words.indexOf("`: ") + 3) : words;
    }
}
