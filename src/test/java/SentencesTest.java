import java.io.IOException;

/** For each sentence of the document a case of its own that quotes it: all promises, the description, the constants. */
public final class SentencesTest {
    public static void main(String[] args) throws IOException {
        Sentences sentences = new Sentences();
        TranscriptCases.addTo(sentences);
        DivisionCases.addTo(sentences);
        SlotCases.addTo(sentences);
        TitleCases.addTo(sentences);
        TextCases.addTo(sentences);
        EditCases.addTo(sentences);
        RefusalCases.addTo(sentences);
        SetupCases.addTo(sentences);
        SegmentCases.addTo(sentences);
        ChapterCases.addTo(sentences);
        sentences.end("SentencesTest");
    }
}
