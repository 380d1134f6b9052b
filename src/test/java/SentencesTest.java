/** Every sentence of the document that tells a bound, an edge or a refusal has a test of its own here. */
public final class SentencesTest {
    public static void main(String[] args) {
        Sentences doc = new Sentences("SentencesTest");
        SentencesOnStores.all(doc);
        SentencesOnTexts.all(doc);
        SentencesOnHolds.all(doc);
        SentencesOnDays.all(doc);
        SentencesOnQuestions.all(doc);
        doc.finish();
    }
}
