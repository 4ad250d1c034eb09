/**
 * Each sentence of the document that names an edge, tried by calls of its own: 'Due.says' names the promise and the words,
 * and no word of the document may be left that none of them tries.
 */
public final class EdgesTest {
    private EdgesTest() {
    }

    public static void main(String[] args) {
        TownEdges.check();
        DaysEdges.check();
        TriedEdges.check();
        SeenEdges.check();
        RefusedEdges.check();
        HeedEdges.check();
        ChangeEdges.check();
        LastCallEdges.check();
        EveryEdges.check();
        String untried = Doc.untried();
        Due.holds("nothing of the document is left untried, but\n" + untried, untried.isEmpty());
        Due.end();
    }
}
