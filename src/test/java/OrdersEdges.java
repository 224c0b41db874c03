/** Promises 30 to 32: orders. */
final class OrdersEdges {
    private static final int LEAST = Integer.MIN_VALUE;
    private static final int MOST = Integer.MAX_VALUE;

    private OrdersEdges() {
    }

    static void all(Edges t) {
        order(t);
        again(t);
        orderIs(t);
    }

    private static void order(Edges t) {
        t.test("Promise 30", "A new ORDER to a CRAFT, sent in the open HOUR: its number.", () -> {
            Run x = Made.busy(t).due("order(0, 25)", 3).due("order(0, 2000)", 4).due("order(1, 26)", 2).due("order(2, 99)", 0);
            x.dues("orderIs(0, 3, *)", 25, -1, 25, 0, -1).dues("orderIs(0, 4, *)", 25, -1, 2000, 0, -1);
            x.due("craftIs(0, 10)", 5).due("craftIs(2, 10)", 1);
            t.run().go("craft(1, 0, 10)").due("order(0, 0)", 0).dues("orderIs(0, 0, *)", 0, -1, 0, 0, -1);
        });
        t.test("Promise 30", "BEYOND: no such CRAFT, last isn't the open HOUR to 2000.", () -> {
            t.refused(Due.BEYOND, "order(-1, 30)", "order(3, 30)", "order(0, 24)", "order(0, 2001)", "order(0, -1)", "order(0, " + MOST + ")",
                "order(0, " + LEAST + ")");
            t.refused(() -> twelve(t), Due.BEYOND, "order(0, 24)", "order(0, 2001)");
            t.refused(() -> t.run().go("craft(1, 0, 10)"), Due.BEYOND, "order(0, -1)", "order(1, 0)");
            Run last = t.run().go("craft(1, 0, 10)");
            for (int i = 0; i < 20; i++) {
                last.go("run(100)");
            }
            last.due("order(0, 1999)", Due.BEYOND).due("order(0, 2001)", Due.BEYOND).due("order(0, 2000)", 0);
        });
        t.test("Promise 30", "FULL.", () -> {
            t.refused(() -> twelve(t), Due.FULL, "order(0, 25)", "order(0, 2000)");
            twelve(t).due("order(1, 25)", 2).go("run(100)").due("order(0, 2000)", Due.FULL);
        });
    }

    /** CRAFT 0 has all ORDERS that it can have. */
    private static Run twelve(Edges t) {
        Run x = Made.busy(t);
        for (int i = 3; i < 12; i++) {
            x.due("order(0, 30)", i);
        }
        return x;
    }

    private static void again(Edges t) {
        t.test("Promise 31", "An ORDER is sent again in the open HOUR: 1.", () -> {
            Run x = Made.busy(t).due("again(1, 1)", 1).due("orderIs(1, 1, 1)", 25).go("run(1)").due("again(0, 2)", 1);
            x.due("orderIs(0, 2, 1)", 26).due("orderIs(0, 2, 0)", 25);
            Run last = t.run().go("craft(1, 0, 10)", "order(0, 1)", "run(1)").due("again(0, 0)", 1).go("run(1)");
            last.dues("orderIs(0, 0, *)", 0, 1, 1, 2, -1);
        });
        t.test("Promise 31", "BEYOND.", () -> {
            t.refused(Due.BEYOND, "again(-1, 0)", "again(3, 0)", "again(0, -1)", "again(0, 3)", "again(2, 0)", "again(0, " + MOST + ")",
                "again(" + LEAST + ", 0)");
            t.refused(() -> t.run(), Due.BEYOND, "again(0, 0)");
            t.refused(() -> t.run().go("craft(1, 0, 10)"), Due.BEYOND, "again(0, 0)");
        });
        t.test("Promise 31", "STATE: it was already, or was sent in this HOUR, or doesn't wait.", () -> {
            t.refused(Due.STATE, "again(0, 0)", "again(0, 1)", "again(0, 2)", "again(1, 0)");
            Run x = Made.busy(t).due("again(1, 1)", 1).due("again(1, 1)", Due.STATE).due("orderIs(1, 1, 1)", 25);
            x.go("run(1)").due("again(1, 1)", Due.STATE).due("orderIs(1, 1, 1)", 25);
        });
    }

    private static void orderIs(Edges t) {
        t.test("Promise 32", "Of an ORDER: what 0 the HOUR in which it was sent, 1 in which again (-1), 2 its LAST HOUR, 3 0 waits, 1"
            + " done, 2 late, 4 the HOUR in which it was done (-1).", () -> {
            Run x = Made.busy(t).dues("orderIs(0, 0, *)", 0, -1, 0, 2, -1).dues("orderIs(0, 1, *)", 20, 24, 2000, 0, -1);
            x.dues("orderIs(0, 2, *)", 25, -1, 90, 0, -1).dues("orderIs(1, 0, *)", 20, -1, 60, 1, 22).dues("orderIs(1, 1, *)", 24, -1, 70, 0, -1);
            x.go("run(1)").due("orderIs(1, 1, 3)", 0).go("run(1)").dues("orderIs(1, 1, *)", 24, -1, 70, 1, 26);
        });
        t.test("Promise 32", "BEYOND.", () -> {
            t.refused(Due.BEYOND, "orderIs(-1, 0, 0)", "orderIs(3, 0, 0)", "orderIs(0, -1, 0)", "orderIs(0, 3, 0)", "orderIs(2, 0, 0)",
                "orderIs(0, 0, -1)", "orderIs(0, 0, 5)", "orderIs(0, 0, " + MOST + ")");
            t.refused(() -> t.run(), Due.BEYOND, "orderIs(0, 0, 0)");
        });
    }
}
