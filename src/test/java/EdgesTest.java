import java.io.IOException;

/** Each sentence of the document that names an edge, promise by promise; Edges says how they are held. */
public final class EdgesTest {
    public static void main(String[] args) throws IOException {
        Edges e = new Edges(new Check("EdgesTest"));
        new IceEdges(e).all();
        new BodyEdges(e).all();
        new CallEdges(e).all();
        new LaneEdges(e).all();
        new TextEdges(e).all();
        new StoryEdges(e).all();
        new HostEdges(e).all();
        e.finish();
    }
}
