/** Each sentence of the document that names a boundary case, quoted, with a test of its own. */
public final class EdgesTest {
    private EdgesTest() {
    }

    /** With any argument it tells the document's words that no test quotes. */
    public static void main(String[] args) throws Exception {
        TermsEdges.all();
        CallsEdges.all();
        RefusalsEdges.all();
        FramesEdges.all();
        TablesEdges.all();
        LettersEdges.all();
        SequencesEdges.all();
        DictionaryEdges.all();
        PackEdges.all();
        ToldEdges.all();
        Check.quotes(args.length > 0);
        Check.end();
    }
}
