import java.io.IOException;

/** Promises 1 to 28: each sentence of the document that names a boundary case, in the document's own words. */
public final class BoundariesTest {
    public static void main(String[] args) throws IOException {
        Edges edges = new Edges();
        new RefusalsBoundaries(edges).all();
        new StonesBoundaries(edges).all();
        new TextBoundaries(edges).all();
        new LaysBoundaries(edges).all();
        new CranksBoundaries(edges).all();
        new BestBoundaries(edges).all();
        new SheetsBoundaries(edges).all();
        edges.end();
    }
}
