/** Boundary cases, sentence by sentence of the document. */
public final class EdgeTests {
    private EdgeTests() {
    }

    public static void main(String[] args) {
        TextEdges.run();
        RoundEdges.run();
        AppealEdges.run();
        PlanEdges.run();
        TreeEdges.run();
        RefusalEdges.run();
        Edge.allSaid();
        Check.close("EdgeTests");
    }
}
