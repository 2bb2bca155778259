/** The boundary cases of all promises: smallest, largest, the first refused, nothing, full, wrapped around, refused calls. */
public final class BoundsTest {
    public static void main(String[] args) {
        Bounds bounds = new Bounds();
        PartsBounds.ask(bounds);
        AnswersBounds.ask(bounds);
        StrokesBounds.ask(bounds);
        StepsBounds.ask(bounds);
        TapeBounds.ask(bounds);
        TextsBounds.ask(bounds);
        MovesBounds.ask(bounds);
        SheetsBounds.ask(bounds);
        SlotsBounds.ask(bounds);
        RowsBounds.ask(bounds);
        bounds.end();
    }
}
