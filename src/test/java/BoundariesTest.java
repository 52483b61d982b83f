import java.io.IOException;

/** Each sentence of the document that names a boundary case, with a test of its own. */
public final class BoundariesTest {
    public static void main(String[] args) throws IOException {
        Checks checks = new Checks();
        Boundaries[] groups = {
            new HallBoundaries(checks), new OfferBoundaries(checks), new CommandBoundaries(checks),
            new ChangeBoundaries(checks), new GuestBoundaries(checks), new CoatBoundaries(checks),
            new TimeBoundaries(checks), new ChairBoundaries(checks), new LineBoundaries(checks),
        };
        for (Boundaries group : groups) {
            group.all();
        }
        Boundaries.compareWithDocument(checks);
        checks.close("BoundariesTest");
    }
}
