import java.io.IOException;
import java.nio.file.Path;

/**
 * The document's edges, sentence by sentence: each check says which promise and which sentence it holds, at the boundary
 * and at the first number beyond it on either side.
 */
public final class EdgesTest {
    private static final int PROMISES = 56;

    public static void main(String[] args) throws IOException {
        TapeEdges.all();
        LineEdges.all();
        FaultEdges.all();
        PrintEdges.all();
        NightEdges.all();
        ArcEdges.all();
        ChanceEdges.all();
        RideEdges.all();
        DrawEdges.all();
        ActEdges.all();
        TroubleEdges.all();
        Check.sentencesStandIn(Path.of(args.length > 1 ? args[1] : "../shared/DOC.md"), PROMISES);
        Check.end("EdgesTest");
    }
}
