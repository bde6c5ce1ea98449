import java.nio.file.Files;
import java.nio.file.Path;

/** Every sentence of the document, tested at its edges under its own words, and that none of them is left out. */
public final class EdgesTest {
    public static void main(String[] args) throws Exception {
        Edges edges = new Edges();
        TextEdges.all(edges);
        BookEdges.all(edges);
        HoistEdges.all(edges);
        DeedEdges.all(edges);
        AfarEdges.all(edges);
        ImageEdges.all(edges);
        edges.holdAgainst(Files.readString(Path.of(System.getProperty("flaghoists.document", "../shared/DOC.md"))));
        Check.end();
    }
}
