/**
 * Every sentence of the document that names a boundary: both sides of it, that a refused call changes nothing, and
 * that of several refusals the first is answered that the call's words name. The tests quote the sentences, and
 * together they quote all words of the promises and of the terms.
 */
public final class SentencesTest {
    private SentencesTest() {
    }

    public static void main(String[] args) throws Exception {
        Sentences.begin();
        WholeSentences.all();
        MakingSentences.all();
        TellingSentences.all();
        ProofSentences.all();
        SheetSentences.all();
        if (!Sentences.end()) System.exit(1);
    }
}
