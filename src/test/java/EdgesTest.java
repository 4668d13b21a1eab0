import java.io.IOException;
import java.nio.file.Path;

/** Every boundary case that the document names, each by a test of its own. */
public final class EdgesTest {
    public static void main(String[] args) throws IOException {
        Edges edges = new Edges(Path.of("../shared/DOC.md"));
        CastleEdges.tell(edges);
        RuleEdges.tell(edges);
        MomentEdges.tell(edges);
        AskEdges.tell(edges);
        PromiseEdges.tell(edges);
        edges.allPromisesTold();
        Check.finish("EdgesTest");
    }
}
