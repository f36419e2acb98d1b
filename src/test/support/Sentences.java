import java.util.ArrayList;
import java.util.List;

/**
 * Tests that bear a promise's number and the document's sentence. The sentences of a section,
 * one behind the other, must be the section: none is without a test, and none is made up.
 */
final class Sentences {
    private static final List<String> quoted = new ArrayList<>();
    private static String section = "";

    private Sentences() {
    }

    static void section(String heading) {
        end();
        section = heading;
    }

    static void test(int promise, String sentence, Runnable... tests) {
        quoted.add(sentence);
        Check.about("promise " + promise + ", \"" + sentence + "\": ");
        for (Runnable test : tests) {
            try {
                test.run();
            } catch (RuntimeException e) {
                Check.due("the test, at " + e.getStackTrace()[0] + ",", e.toString(), "an answer");
            }
        }
    }

    static void end() {
        if (!section.isEmpty()) {
            Check.about("section \"" + section + "\": ");
            Check.due("the sentences that have a test", String.join(" ", quoted), inDocument());
        }
        section = "";
        quoted.clear();
    }

    /** A section's words without a promise's signature. */
    private static String inDocument() {
        String words = Document.words(Document.PROMISES, section);
        int signature = section.startsWith("Promise ") ? words.indexOf("`: ") : -1;
        return signature < 0 ? words : words.substring(signature + 3);
    }
}
