/**
 * For each sentence of the document one test of its own, of the cases just inside and just outside of
 * the bounds that it names.
 */
public final class BoundsTest {
    public static void main(String[] args) {
        DraftBounds.test();
        LanguageBounds.test();
        RunBounds.test();
        ExerciseBounds.test();
        AnswerBounds.test();
        DeskBounds.test();
        RefusalBounds.test();
        Sentence.checkAllNamed();
        Check.end("BoundsTest");
    }
}
