/**
 * For each sentence of the document that names a boundary case, a test of its own: each test
 * quotes its sentence, and all the document's sentences must be quoted.
 */
public final class BoundaryTest {
    public static void main(String[] args) {
        ConditionTerms.all();
        RecordTerms.all();
        TraceTerms.all();
        ConditionBounds.all();
        MemoryBounds.all();
        SampleBounds.all();
        RecordBounds.all();
        MaskBounds.all();
        TraceBounds.all();
        MeasureBounds.all();
        Check.endSentence();
        Sentences.compareWithDocument();
        Check.finish("BoundaryTest");
    }
}
