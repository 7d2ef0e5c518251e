/**
 * Each sentence of the document at the boundaries that it names. A case names the promise's number and the sentence,
 * or a part of it; behind the cases it is looked whether each word of the document's sentences stands in one.
 */
final class EdgesTest {
    private EdgesTest() {
    }

    public static void main(String[] args) {
        TermsEdges.run();
        SaleTermsEdges.run();
        TextTermsEdges.run();
        DrumsEdges.run();
        NeedlesEdges.run();
        TextsEdges.run();
        UndoEdges.run();
        LooksEdges.run();
        WouldBeEdges.run();
        Edge.allNamed();
        Check.finish("EdgesTest");
    }
}
