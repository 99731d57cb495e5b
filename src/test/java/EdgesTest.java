/** Each sentence of the Terms and of the promises 1 to 27, with its boundary cases. */
public final class EdgesTest {
    public static void main(String[] args) {
        Edges edges = new Edges("EdgesTest");
        TermsEdges.tell(edges);
        RefusalsEdges.tell(edges);
        CanoesEdges.tell(edges);
        BooksEdges.tell(edges);
        LettersEdges.tell(edges);
        WantsEdges.tell(edges);
        TellingEdges.tell(edges);
        edges.end();
    }
}
