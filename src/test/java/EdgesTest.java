import java.io.IOException;

/**
 * The edges that the document names, sentence by sentence: the value at the edge, and the value beside it.
 * The sentences are in the order of the document; each answer that is due is written out by hand.
 */
public final class EdgesTest {
    public static void main(String[] args) throws IOException {
        ProgramEdges.all();
        NodeEdges.all();
        CallEdges.all();
        TextEdges.all();
        RunEdges.all();
        StepEdges.all();
        StateEdges.all();
        RefusalEdges.all();
        Edges.compareWithDocument();
        System.out.println("EdgesTest: " + Edges.tested() + " sentences, " + Kit.checks + " checks, " + Kit.wrong + " wrong");
        System.exit(Kit.wrong > 0 ? 1 : 0);
    }
}
