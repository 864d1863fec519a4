/** Promises 1 to 56, sentence by sentence: each sentence of the document has a test of its own. */
public final class EdgeTest {
    public static void main(String[] args) throws Exception {
        Sentences.read();
        TermsEdges.run();
        MinuteEdges.run();
        TextEdges.run();
        HistoryEdges.run();
        InputEdges.run();
        NumberEdges.run();
        QuestionEdges.run();
        WholeEdges.run();
        ChangeEdges.run();
        SlotEdges.run();
        OutputEdges.run();
        Sentences.finish();
        Check.finish("EdgeTest");
    }
}
