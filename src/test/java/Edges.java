import java.io.IOException;
import java.nio.file.Path;

/** What is due by a sentence of the document: each answer that is not is printed with the promise and the sentence. */
final class Edges {
    private final Due due = new Due();
    private final Document document;
    private String heading = "";

    Edges(Path file) throws IOException {
        document = new Document(file);
    }

    /** The sentence that all answers behind this call are due by. */
    void sentence(int promise, String text) {
        heading = "promise " + promise + " '" + text + "' ";
        due.is(heading + "stands in the document", document.quote(promise, text) ? 1 : 0, 1);
    }

    void is(String call, int got, int want) {
        due.is(heading + call, got, want);
    }

    void tells(String when, PraiseDuels x, int... want) {
        due.tells(heading + when, x, want);
    }

    void has(String when, PraiseDuels x, int d, int from, int... want) {
        due.has(heading + when, x, d, from, want);
    }

    void end(String name) {
        heading = "";
        for (String text : document.left()) {
            due.is("no test for '" + text + "'", 0, 1);
        }
        due.end(name);
    }
}
