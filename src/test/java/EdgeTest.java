import java.io.IOException;

/** All edges that the document names, each test marked with the words that it is for. */
public final class EdgeTest {
    public static void main(String[] args) throws IOException {
        Doc.read();
        DuctEdges.run();
        ToldEdges.run();
        CommonEdges.run();
        RakeEdges.run();
        ReadingEdges.run();
        TextEdges.run();
        SnapshotEdges.run();
        LookEdges.run();
        WouldBeEdges.run();
        DigestEdges.run();
        Doc.end();
        Check.end();
    }

    private EdgeTest() {
    }
}
