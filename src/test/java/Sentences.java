import java.io.IOException;
import java.nio.file.Files;
import java.nio.file.Path;

/**
 * The document's sentences: a test names the one that it holds the class to, in the document's own words,
 * so that a test whose sentence is no longer there fails, and a promise without one too.
 */
final class Sentences {
    private static final Path DOCUMENT = Path.of("..", "shared", "DOC.md");
    private static final int PROMISES = 32;

    private static boolean isOpen = false;
    private static String document = "";
    private static final int[] tested = new int[PROMISES + 1];

    private Sentences() {
    }

    /** Without the document the tests are run all the same: they hold the class to what they quote. */
    static void open() throws IOException {
        isOpen = Files.isReadable(DOCUMENT);
        if (isOpen) {
            document = oneLine(Files.readString(DOCUMENT));
        } else {
            System.out.println("there is no " + DOCUMENT + ": the quoted sentences are not looked up");
        }
    }

    /** What follows tests these words, which the promise says or rests on. */
    static void of(int promise, String words) {
        Due.in("promise " + promise + ", '" + words + "'");
        Due.holds("the document does not say so", !isOpen || document.contains(oneLine(words)));
        tested[promise]++;
    }

    static void everyPromiseIsTested() {
        for (int promise = 1; promise <= PROMISES; promise++) {
            Due.in("promise " + promise);
            Due.holds("no sentence of it is tested", tested[promise] > 0);
        }
    }

    private static String oneLine(String text) {
        return text.replaceAll("\\s+", " ");
    }
}
