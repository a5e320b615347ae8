/** Every sentence of the document that names a bound, with a test of its own; of promises, every sentence. */
public final class BoundsTest {
    public static void main(String[] args) {
        GuildBounds.all();
        WaitingBounds.all();
        DayBounds.all();
        ShelfBounds.all();
        RefusalBounds.all();
        Sentence.everyPromiseIsQuoted(38);
        // BoundsTest rest: what of the document isn't quoted
        if (args.length > 0) Sentence.tellTheRest();
        Due.end();
    }
}
