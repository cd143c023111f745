/** Promises 1 to 31 at their edges: every sentence of the document has a test of its own, and so has every refusal. */
public final class EdgesTest {
    private static final int MOST_CALLS = 512;

    public static void main(String[] args) {
        GardenEdges.run();
        ActsEdges.run();
        AheadEdges.run();
        SeenEdges.run();
        RestsEdges.run();
        SlotsEdges.run();
        Refusals.run();
        Sentence.noneIsLeft();
        mostCalls();
        Check.end("EdgesTest");
    }

    /** "An object is used for at most 512 calls after it has been made" */
    private static void mostCalls() {
        OneTricycle x = new OneTricycle();
        for (int call = 1; call < MOST_CALLS; call++) {
            x.minute();
        }
        Check.about(x, "call 512", 9, MOST_CALLS - 1);
    }
}
