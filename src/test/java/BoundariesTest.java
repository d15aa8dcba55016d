/** Each sentence of the document that names a boundary case, promise by promise. */
public final class BoundariesTest {
    public static void main(String[] args) {
        WorldBoundaries.all();
        LawBoundaries.all();
        DayBoundaries.all();
        QuestionBoundaries.all();
        ChoiceBoundaries.all();
        BookBoundaries.all();
        ActBoundaries.all();
        TapeBoundaries.all();
        AskedBoundaries.all();
        Document.isQuoted();
        Due.end();
    }
}
