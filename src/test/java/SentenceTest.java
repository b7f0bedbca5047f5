import java.io.IOException;

/** The document sentence by sentence: each one of the description and of the promises has a test of its own. */
final class SentenceTest {
    private SentenceTest() {
    }

    public static void main(String[] args) throws IOException {
        Sentences all = new Sentences();
        MapSentences.tests(all);
        YearSentences.tests(all);
        WaySentences.tests(all);
        RepairSentences.tests(all);
        TextSentences.tests(all);
        MapDescription.tests(all);
        RoundDescription.tests(all);
        TextDescription.tests(all);
        ErrorDescription.tests(all);
        all.end();
    }
}
