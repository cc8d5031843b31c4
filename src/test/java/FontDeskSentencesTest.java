/** Each sentence of the document has a test of its own: ordinary inputs, the edges that it names, and wrong inputs. */
public final class FontDeskSentencesTest {
    public static void main(String[] args) {
        FileSentences.all();
        StepSentences.all();
        MachineSentences.all();
        CallSentences.all();
        WordSentences.all();
        Doc.end();
        Due.end("FontDeskSentencesTest");
    }
}
