/** A test for each sentence of the document that names a boundary; and no word of its promises is left out. */
public final class EdgesTest {
    private static final int PROMISES = 32;

    public static void main(String[] args) throws Exception {
        Due due = new Due("EdgesTest");
        Words words = new Words();
        Edges edges = new Edges(due, words);
        new EdgesOfTerms(edges).all();
        new EdgesOfPieces(edges).all();
        new EdgesOfBatches(edges).all();
        new EdgesOfWashes(edges).all();
        new EdgesOfSheets(edges).all();
        if (Words.isThere()) {
            due.is("promises of the document", words.promises(), PROMISES);
            for (String left : words.notNamed()) {
                due.is("words of the document that no test names: " + left, 1, 0);
            }
        } else {
            System.out.println("EdgesTest: the document isn't there, so its words are not looked at");
        }
        due.end();
    }
}
