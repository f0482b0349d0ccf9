/** Each sentence of the document that names a boundary case, by a test of its own that quotes it. */
public final class EdgesTest {
    public static void main(String[] args) {
        Sentences due = new Sentences("EdgesTest");
        new TextEdges(due).run();
        new RideEdges(due).run();
        new WayEdges(due).run();
        new KindEdges(due).run();
        due.end();
    }
}
