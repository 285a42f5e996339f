import java.io.IOException;
import java.nio.file.Files;
import java.nio.file.Path;

/**
 * Runs the test of one sentence of the document. The sentence is quoted word for
 * word, under the heading where it stands, and is printed where it does not hold.
 */
final class Sentence {
    interface Test {
        void run();
    }

    private static final String DOCUMENT = document();

    private Sentence() {
    }

    static void holds(String heading, String words, Test test) {
        Check.during(heading + " \"" + words + "\": ");
        if (!DOCUMENT.isEmpty()) {
            Check.same("the document", "quoted", section(heading).contains(plain(words)) ? "quoted" : "without these words");
        }
        try {
            test.run();
        } catch (RuntimeException e) {
            Check.same("the test", "an end", e + " at " + e.getStackTrace()[0]);
        }
        Check.during("");
    }

    /** Without the document the tests still run; only the quotes are not looked at. */
    private static String document() {
        try {
            return plain(Files.readString(Path.of("../shared/DOC.md")).replace("\n## ", " ## "));
        } catch (IOException e) {
            return "";
        }
    }

    private static String plain(String words) {
        return words.replaceAll("\\s+", " ");
    }

    private static String section(String heading) {
        int begin = DOCUMENT.indexOf("## " + heading + (heading.startsWith("Promise") ? ":" : " "));
        int end = DOCUMENT.indexOf(" ## ", begin + 1);
        return begin < 0 ? "" : DOCUMENT.substring(begin, end < 0 ? DOCUMENT.length() : end);
    }
}
