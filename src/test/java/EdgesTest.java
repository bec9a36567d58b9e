/** Each sentence of the document, with its boundary cases, on both sides where there are two. */
public final class EdgesTest {
    public static void main(String[] args) {
        TermsEdges.all();
        TriedEdges.all();
        TextEdges.all();
        ThingsEdges.all();
        PromiseEdges.all();
        AskedEdges.all();
        HeldEdges.all();
        Sentence.end();
        Check.end();
    }
}
