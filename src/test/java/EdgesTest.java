import java.io.IOException;
import java.nio.file.Path;

/** All promises: a test of its own for each sentence, at the last value that is allowed and the first that is not. */
final class EdgesTest {
    public static void main(String[] args) throws IOException {
        ZoneEdges.all();
        CrewEdges.all();
        HourEdges.all();
        TextEdges.all();
        UndoEdges.all();
        LookEdges.all();
        WouldBeEdges.all();
        Edge.holdAgainst(Path.of("../shared/DOC.md"));
        Check.ends("EdgesTest");
    }
}
