import java.io.IOException;
import java.nio.file.Path;

/** For each sentence of the document a test of its own: the least, the greatest, nothing, full, refused. */
public final class EdgeTests {
    public static void main(String[] args) throws IOException {
        Sentences document = new Sentences(Path.of("../shared/DOC.md"));
        Edges e = new Edges(document);
        e.is("promises of the document", document.promises(), 35);
        new TermEdges(e).all();
        new TextEdges(e).all();
        new RoadEdges(e).all();
        new ForetoldEdges(e).all();
        new SheetEdges(e).all();
        for (String sentence : document.untested()) {
            System.out.println("no test for " + sentence);
        }
        boolean holds = e.wrong() == 0 && document.untested().isEmpty();
        System.out.println(holds ? e.answers() + " answers at the edges are as due" : "edges are not as due");
        System.exit(holds ? 0 : 1);
    }
}
