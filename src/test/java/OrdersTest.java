/** Promises 30 to 32: orders. */
public final class OrdersTest {
    private static final Due T = new Due();

    public static void main(String[] args) {
        order();
        again();
        orderIs();
        doneInTime();
        inOrder();
        kindsThatSend();
        brokenDish();
        thereByTheFirstTime();
        T.end();
    }

    private static FarDishes withCraft(int far) {
        FarDishes x = new FarDishes();
        x.dish(0, 1, 0);
        x.craft(1, far, 10);
        x.rises(0, 0, 0, 24);
        return x;
    }

    private static void order() {
        FarDishes x = withCraft(0);
        T.due("no craft", x.order(1, 5), Due.BEYOND);
        T.due("craft -1", x.order(-1, 5), Due.BEYOND);
        T.due("2001", x.order(0, 2001), Due.BEYOND);
        x.run(5);
        T.due("ahead of the open hour", x.order(0, 4), Due.BEYOND);
        T.due("the open hour", x.order(0, 5), 0);
        T.due("2000", x.order(0, 2000), 1);
        for (int i = 2; i < 12; i++) {
            T.due("order " + i, x.order(0, 9), i);
        }
        T.due("beyond ahead of full", x.order(0, 4), Due.BEYOND);
        T.due("full", x.order(0, 9), Due.FULL);
        x.craft(1, 0, 10);
        T.due("of another craft", x.order(1, 9), 0);
        T.due("how many", x.craftIs(0, 10), 12);
    }

    private static void again() {
        FarDishes x = withCraft(0);
        x.order(0, 3);
        x.order(0, 9);
        T.due("in the same hour", x.again(0, 0), Due.STATE);
        T.due("no order", x.again(0, 2), Due.BEYOND);
        T.due("-1", x.again(0, -1), Due.BEYOND);
        T.due("no craft", x.again(1, 0), Due.BEYOND);
        x.run(1);
        T.due("again", x.again(0, 0), 1);
        T.due("not twice", x.again(0, 0), Due.STATE);
        x.run(1);
        T.due("not twice, later", x.again(0, 0), Due.STATE);
        T.due("the hour", x.orderIs(0, 0, 1), 1);
        T.due("the other: none", x.orderIs(0, 1, 1), -1);
        x.run(8);
        T.due("late", x.again(0, 1), Due.STATE);
    }

    private static void orderIs() {
        FarDishes x = withCraft(0);
        x.run(2);
        x.order(0, 7);
        int[] first = {2, -1, 7, 0, -1};
        for (int what = 0; what < 5; what++) {
            T.due("new, what " + what, x.orderIs(0, 0, what), first[what]);
        }
        x.run(1);
        x.again(0, 0);
        Due.asks(x, "send c0n1from3to4");
        x.hold();
        x.run(1);
        int[] done = {2, 3, 7, 1, 3};
        for (int what = 0; what < 5; what++) {
            T.due("done, what " + what, x.orderIs(0, 0, what), done[what]);
        }
        T.due("what 5", x.orderIs(0, 0, 5), Due.BEYOND);
        T.due("what -1", x.orderIs(0, 0, -1), Due.BEYOND);
        T.due("order 1", x.orderIs(0, 1, 0), Due.BEYOND);
        T.due("craft 1", x.orderIs(1, 0, 0), Due.BEYOND);
        T.due("done: not again", x.again(0, 0), Due.STATE);
    }

    private static void doneInTime() {
        FarDishes x = withCraft(3);
        Due.asks(x, "send c0n1from0to1");
        x.hold();
        x.order(0, 2000);
        x.run(3);
        T.due("not there yet", x.orderIs(0, 0, 3), 0);
        x.run(1);
        T.due("there after far hours", x.orderIs(0, 0, 3), 1);
        T.due("in that hour", x.orderIs(0, 0, 4), 3);
        x = withCraft(3);
        Due.asks(x, "send c0n1from0to1");
        x.hold();
        x.order(0, 3);
        x.order(0, 2);
        x.run(3);
        T.due("late in its last hour", x.orderIs(0, 1, 3), 2);
        T.due("the other waits", x.orderIs(0, 0, 3), 0);
        x.run(1);
        T.due("done in its last hour", x.orderIs(0, 0, 3), 1);
        T.due("late stays late", x.orderIs(0, 1, 3), 2);
        T.due("never done", x.orderIs(0, 1, 4), -1);
        x = withCraft(0);
        Due.asks(x, "send c0n1from1to2");
        x.hold();
        x.order(0, 50);
        x.run(3);
        T.due("sent when none runs: never there", x.orderIs(0, 0, 3), 0);
        x.run(48);
        T.due("late at last", x.orderIs(0, 0, 3), 2);
    }

    private static void inOrder() {
        FarDishes x = withCraft(0);
        x.order(0, 4);
        x.run(1);
        Due.asks(x, "both c0n1from1to2");
        x.hold();
        x.order(0, 9);
        x.order(0, 3);
        x.run(1);
        T.due("1 is there, 0 isn't done", x.orderIs(0, 1, 3), 0);
        x.run(2);
        T.due("2 is late meanwhile", x.orderIs(0, 2, 3), 2);
        T.due("1 waits still", x.orderIs(0, 1, 3), 0);
        x.run(1);
        T.due("0 is late", x.orderIs(0, 0, 3), 2);
        T.due("so 1 is done in the same hour", x.orderIs(0, 1, 3), 1);
        T.due("the hour", x.orderIs(0, 1, 4), 4);
        x = withCraft(1);
        Due.asks(x, "far c0n1from0to1");
        x.hold();
        x.order(0, 9);
        x.order(0, 9);
        x.run(2);
        T.due("0 is done", x.orderIs(0, 0, 4), 1);
        T.due("1 is done in the same hour", x.orderIs(0, 1, 4), 1);
    }

    private static void kindsThatSend() {
        String[] kinds = {"track", "send", "hear", "both", "far", "shared", "array"};
        int[] done = {0, 1, 0, 1, 1, 0, 0};
        for (int k = 0; k < kinds.length; k++) {
            FarDishes x = withCraft(0);
            x.craft(1, 0, 10);
            Due.asks(x, kinds[k] + " c0n1from0to1");
            x.hold();
            x.order(0, 5);
            x.order(1, 5);
            x.run(1);
            T.due(kinds[k] + " sends orders", x.orderIs(0, 0, 3), done[k]);
            T.due(kinds[k] + " sends none of another craft", x.orderIs(1, 0, 3), 0);
        }
    }

    private static void brokenDish() {
        FarDishes x = withCraft(0);
        Due.asks(x, "send c0n2from0to2");
        x.hold();
        x.order(0, 5);
        x.mend(0, true);
        x.run(1);
        T.due("broken: it doesn't go", x.orderIs(0, 0, 3), 0);
        x.mend(0, false);
        x.again(0, 0);
        x.run(1);
        T.due("nor does a broken asking send later", x.orderIs(0, 0, 3), 0);
    }

    private static void thereByTheFirstTime() {
        FarDishes x = withCraft(3);
        Due.asks(x, "send c0n9from0to9");
        x.hold();
        x.order(0, 50);
        x.run(2);
        x.again(0, 0);
        x.run(1);
        T.due("not yet", x.orderIs(0, 0, 3), 0);
        x.run(1);
        T.due("by the first time", x.orderIs(0, 0, 4), 3);
        x = withCraft(3);
        Due.asks(x, "send c0n9from2to11");
        x.hold();
        x.order(0, 50);
        x.run(2);
        x.again(0, 0);
        x.run(4);
        T.due("by the second time if the first didn't go", x.orderIs(0, 0, 4), 5);
    }
}
