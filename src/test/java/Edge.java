import java.io.IOException;
import java.nio.file.Files;
import java.nio.file.Path;

/**
 * A test of one sentence of the document: what is wrong in it is told with that sentence. A sentence
 * that the document does not have (any more) is noted, but is no fault of the class.
 */
final class Edge {
    private static final Path DOCUMENT = Path.of("..", "shared", "DOC.md");
    private static String document;
    private static int tested;

    private Edge() {
    }

    static void of(String sentence, Runnable test) {
        tested++;
        if (!document().isEmpty() && !document().contains(sentence)) {
            System.out.println("note: the document does not say: " + sentence);
        }
        Desk.speakOf(sentence);
        test.run();
        Desk.speakOf("");
    }

    static void end() {
        System.out.println(tested + " sentences tested");
        Desk.end();
    }

    private static String document() {
        if (document == null) {
            document = read();
        }
        return document;
    }

    private static String read() {
        try {
            return Files.isReadable(DOCUMENT) ? Files.readString(DOCUMENT) : "";
        } catch (IOException e) {
            return "";
        }
    }
}
