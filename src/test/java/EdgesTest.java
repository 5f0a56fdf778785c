/**
 * The edges that the document names: each with the promise's number and the sentence beside it. What is refused is
 * held against a judge made alike on which the call was not made: nothing else may have changed.
 */
public final class EdgesTest {
    public static void main(String[] args) throws Exception {
        Doc.load();
        LoopEdges.run();
        SpanEdges.run();
        DoneEdges.run();
        SheetEdges.run();
        for (String piece : Doc.unquoted()) {
            Check.holds("a test stands beside " + piece, false);
        }
        Check.end();
    }
}
