import java.io.IOException;

/** Every sentence of the document that names a boundary case, each with a test of its own that quotes it. */
public final class EdgeTests {
    public static void main(String[] args) throws IOException {
        Check check = new Check();
        Sentences document = new Sentences();
        new SlopeEdges(check, document).run();
        new WalkerEdges(check, document).run();
        new WouldBeEdges(check, document).run();
        new BookEdges(check, document).run();
        new AllEdges(check, document).run();
        document.checkAllBoundariesQuoted(check);
        check.end("EdgeTests");
    }
}
