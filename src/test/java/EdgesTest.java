import java.io.IOException;

/** Each sentence of the document's terms and promises, at its edges; it fails, too, if no test names a sentence. */
public final class EdgesTest {
    public static void main(String[] args) throws IOException {
        Edges e = new Edges();
        new StairEdges(e).all();
        new MinuteEdges(e).all();
        new TextEdges(e).all();
        new ThoughtEdges(e).all();
        new VoiceEdges(e).all();
        new SheetEdges(e).all();
        new ImageEdges(e).all();
        e.end();
    }
}
