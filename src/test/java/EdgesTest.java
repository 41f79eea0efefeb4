/** Each boundary case that a sentence of the document names, in a test of its own that quotes the sentence. */
public final class EdgesTest {
    private EdgesTest() {
    }

    public static void main(String[] args) {
        Cases.begin("EdgesTest");
        LakeEdges.all();
        HourEdges.all();
        WindowEdges.all();
        PealEdges.all();
        CommandEdges.all();
        LineEdges.all();
        ChangeEdges.all();
        RefusalEdges.all();
        Cases.finishBoundaries();
    }
}
