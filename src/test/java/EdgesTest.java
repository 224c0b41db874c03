/**
 * Every sentence of the document has a test that names it; the tests themselves stand in the files that end in Edges.
 * With any argument each test is told.
 */
public final class EdgesTest {
    private static final String[] CHANGES = {"rain(0, 0, 1)", "dish(0, 1, 1)", "mend(0, true)", "craft(1, 1, 11)",
        "rises(0, 0, 0, 23)", "feed(0, 1)", "wipe()", "asks()", "worth(5, 4)", "worth(3, 1)", "hold()", "drop(4)", "run(1)",
        "name(0, 9)", "order(0, 99)", "again(1, 1)", "table(0, 0, 2, false)", "table(0, 0, 1, true)", "cell(5, 8)",
        "cell(63, 99)", "seek()", "sheet(3, 8, 0)", "sheet(0, 0, 0)", "sheet(0, 16, 5)", "write(0, 0, 1)",
        "copy(0, 4, 2, 1, 1)", "image()", "undo()", "tear()"};

    public static void main(String[] args) {
        Edges t = new Edges(args.length > 0);
        lookIsNotBlind(t);
        Terms1Edges.all(t);
        Terms2Edges.all(t);
        Terms3Edges.all(t);
        Terms4Edges.all(t);
        Terms5Edges.all(t);
        PlacesEdges.all(t);
        AskingsEdges.all(t);
        PlansEdges.all(t);
        HoursEdges.all(t);
        OrdersEdges.all(t);
        SilenceEdges.all(t);
        SheetsEdges.all(t);
        ImagesEdges.all(t);
        TwinsEdges.all(t);
        RangesEdges.all(t);
        t.end();
    }

    /** What "changes nothing" is seen by does see each call that changes something. */
    private static void lookIsNotBlind(Edges t) {
        for (String call : CHANGES) {
            String first = Edges.firstChange(() -> Made.busy(t), call);
            t.due("the change by " + call + " isn't seen", first.isEmpty() ? 1 : 0, 0);
        }
        Run x = Made.busy(t);
        x.dues("asking(*, 6)", 3, 2, 2, 4, 1, 0, 0, 0, 0, 0, 0);
        x.dues("orderIs(0, *, 3)", 2, 0, 0).dues("orderIs(1, *, 3)", 1, 0);
        x.dues("count(*)", 3, 1, 3, 11, 6, 1, 2, 1, 1, 25, 7, 9, 2);
        x.due("craftIs(1, 5)", 1).due("craftIs(0, 5)", 0);
    }
}
