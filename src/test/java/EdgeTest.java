import java.io.IOException;

/** All sentences of the document, each by a test of its own on both sides of its boundaries. */
public final class EdgeTest {
    public static void main(String[] args) throws IOException {
        Edges e = new Edges();
        TermsEdges.test(e);
        ChangeEdges.test(e);
        ErrorEdges.test(e);
        GameEdges.test(e);
        LookEdges.test(e);
        AdviceEdges.test(e);
        TextEdges.test(e);
        e.end();
    }
}
