import java.io.IOException;

/** For each sentence of the document a test of its own, under that sentence's own words. */
public final class EdgesTest {
    private EdgesTest() {
    }

    public static void main(String[] args) throws IOException {
        Doc.open(args.length > 0 ? args[0] : ".");
        WholeEdges.all();
        TextEdges.all();
        TickEdges.all();
        RowEdges.all();
        LookEdges.all();
        DoneEdges.all();
        Doc.close();
        Check.finish();
    }
}
