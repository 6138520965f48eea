/** The document sentence by sentence: each that names an edge is quoted, and has a test of its own behind the quote. */
public final class EdgeTest extends Runs {
    public static void main(String[] args) {
        Words words = new Words(CHECKS);
        TermEdges.run(words);
        RowEdges.run(words);
        FullEdges.run(words);
        ActEdges.run(words);
        AskEdges.run(words);
        words.close();
        CHECKS.name("edges");
        CHECKS.close();
    }
}
