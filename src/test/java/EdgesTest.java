import java.io.IOException;
import java.nio.file.Path;

/** For each sentence of the document that names an edge a test that stands for it alone; see Edge. */
public final class EdgesTest {
    public static void main(String[] args) throws IOException {
        Edge.open(Path.of(args.length > 0 ? args[0] : "../shared/DOC.md"));
        TapeEdges.all();
        TextEdges.all();
        TokenEdges.all();
        OrderEdges.all();
        LawEdges.all();
        DeedEdges.all();
        RowEdges.all();
        NumberEdges.all();
        ReaderEdges.all();
        TallyEdges.all();
        Edge.close();
        Due.close();
    }
}
