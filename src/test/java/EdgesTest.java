import java.io.IOException;

/** All promises: for each sentence of the document that names a boundary case, a test of its own. */
public final class EdgesTest {
    public static void main(String[] args) throws IOException {
        Edges e = new Edges();
        ObjectEdges.all(e);
        SessionEdges.all(e);
        UndoEdges.all(e);
        JoinEdges.all(e);
        ConflictEdges.all(e);
        LockEdges.all(e);
        RuleEdges.all(e);
        DifferenceEdges.all(e);
        PlayEdges.all(e);
        MarkEdges.all(e);
        e.end();
    }
}
