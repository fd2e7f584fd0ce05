/** Promises 1 to 37: each sentence of the document that names an edge, with answers of its own. */
public final class EdgesTest {
    public static void main(String[] args) {
        StoryEdges.all();
        TextEdges.all();
        HourEdges.all();
        PlanEdges.all();
        ClueEdges.all();
        SheetEdges.all();
        RefusalEdges.all();
        RangeEdges.all();
        Sentences.end();
        Checks.end("EdgesTest");
    }
}
