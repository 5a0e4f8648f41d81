import java.io.IOException;

/** For each sentence of the document that names an edge a test of its own, under that sentence's own words. */
public final class EdgesTest {
    private EdgesTest() {
    }

    public static void main(String[] args) throws IOException {
        Doc.open(args.length > 0 ? args[0] : ".");
        TextEdges.all();
        TickEdges.all();
        RowEdges.all();
        LookEdges.all();
        DoneEdges.all();
        Doc.close();
        Check.finish();
    }
}
