import java.io.IOException;
import java.nio.file.Files;
import java.nio.file.Path;

/** Each sentence of the terms and the promises, with a test of its own for the edges it names. */
public final class EdgesTest {
    public static void main(String[] args) throws IOException {
        Edges edges = new Edges();
        PlaceEdges.all(edges);
        RouteEdges.all(edges);
        ActEdges.all(edges);
        StateEdges.all(edges);
        Path document = Path.of("../shared/DOC.md");
        if (Files.exists(document)) {
            edges.dueWhole(document);
        } else {
            System.out.println("no " + document + ": the sentences are not compared with it");
        }
        Check.finish();
    }
}
