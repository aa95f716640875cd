/** Each sentence of the document that names a bound: just inside it and just outside. */
public final class BoundTests {
    public static void main(String[] args) {
        TextBounds.all();
        RuleBounds.all();
        LetterBounds.all();
        FollowBounds.all();
        OfficeBounds.all();
        QuietBounds.all();
        Bounds.close();
    }
}
