import java.io.IOException;
import java.nio.file.Files;
import java.nio.file.Path;

/**
 * For each sentence of the document that names a boundary case a test of its own. The arguments: the source's path
 * (not used here) and the document's; with "unquoted" behind them it shows what of the document no test quotes.
 */
public final class EdgesTest {
    private static final int PROMISES = 31;

    private EdgesTest() {
    }

    public static void main(String[] args) throws IOException {
        Edges edges = new Edges(Files.readString(Path.of(args.length > 1 ? args[1] : "../shared/DOC.md")));
        TownEdges.all(edges);
        StepEdges.all(edges);
        TextEdges.all(edges);
        FaultEdges.all(edges);
        SaintEdges.all(edges);
        SeenEdges.all(edges);
        ChanceEdges.all(edges);
        if (args.length > 2 && args[2].equals("unquoted")) {
            System.out.println(edges.unquoted());
        }
        if (!edges.report(PROMISES)) {
            System.exit(1);
        }
    }
}
