/** Each sentence of the document that names a boundary, by a test of its own that is printed with its sentence. */
public final class EdgesTest {
    private EdgesTest() {
    }

    public static void main(String[] args) {
        EdgesOfTold.run();
        EdgesOfGoing.run();
        EdgesOfUndo.run();
        EdgesOfTexts.run();
        EdgesOfPier.run();
        EdgesOfThought.run();
        EdgesOfMoreThought.run();
        Doc.check(Edges.DUE);
        Edges.DUE.close();
    }
}
