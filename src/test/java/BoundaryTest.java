import java.io.IOException;

/**
 * The boundary cases of the document, a test for each sentence that names one; and
 * whether each sentence of the document that promises something is quoted by a test.
 */
public final class BoundaryTest {
    public static void main(String[] args) throws IOException {
        runAll();
        DocumentSentences.check();
        Check.finish();
    }

    private static void runAll() {
        TermsBoardEdges.run();
        TermsPlayEdges.run();
        TermsExchangeEdges.run();
        TermsTextEdges.run();
        BeforeTheGameEdges.run();
        MoveEdges.run();
        TextEdges.run();
        PieceEdges.run();
        GuardEdges.run();
        GameEdges.run();
        TotalEdges.run();
    }
}
