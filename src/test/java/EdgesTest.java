import java.io.IOException;
import java.nio.file.Path;

/** The edges that the document names, each beside its promise and its sentence; no sentence is left out. */
public final class EdgesTest {
    public static void main(String[] args) throws IOException {
        Edges edges = new Edges(Path.of("../shared/DOC.md"));
        new EdgesOfTheText(edges).all();
        new EdgesOfTheMeadow(edges).all();
        new EdgesOfDuels(edges).all();
        new EdgesOfTurns(edges).all();
        new EdgesOfTries(edges).all();
        new EdgesOfNotes(edges).all();
        new EdgesOfImages(edges).all();
        new EdgesOfRefusals(edges).all();
        edges.end("EdgesTest");
    }
}
