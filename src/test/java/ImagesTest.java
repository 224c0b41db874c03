/** Promises 1 and 43 to 47: a new object, images, count, status. */
public final class ImagesTest {
    private static final Due T = new Due();

    public static void main(String[] args) {
        newObject();
        image();
        whatIsKept();
        whatIsNotKept();
        sendingIsKept();
        rowsAreNew();
        count();
        status();
        T.end();
    }

    private static void newObject() {
        FarDishes x = new FarDishes();
        for (int what = 0; what <= 12; what++) {
            T.due("new, count " + what, x.count(what), 0);
        }
        T.due("no image", x.undo(), Due.NONE);
        T.due("none to tear", x.tear(), 0);
        T.due("no sheet", x.check(0), Due.MISSING);
        FarDishes y = new FarDishes();
        x.dish(0, 1, 0);
        T.due("another object", y.count(0), 0);
        T.due("another's findings", y.status(-1), 0);
    }

    private static void image() {
        FarDishes x = new FarDishes();
        x.run(3);
        T.due("image", x.image(), 1);
        x.run(4);
        T.due("undo", x.undo(), 3);
        x.run(5);
        T.due("it stays", x.undo(), 3);
        x.run(1);
        T.due("a later image", x.image(), 1);
        x.run(1);
        T.due("the latest one", x.undo(), 4);
        T.due("tear", x.tear(), 1);
        T.due("nothing is kept", x.undo(), Due.NONE);
        T.due("nothing to tear", x.tear(), 0);
        T.due("the hour stays", x.count(9), 4);
    }

    private static void whatIsKept() {
        FarDishes x = new FarDishes();
        x.dish(0, 2, 0);
        x.craft(4, 0, 33);
        x.rises(0, 0, 0, 24);
        x.rises(0, 1, 3, 4);
        x.rain(0, 0, 1);
        x.table(0, 0, 1, false);
        x.table(0, 1, 1, true);
        x.cell(5, 9);
        x.cell(6, 8);
        x.run(23);
        Due.asks(x, "both c0n3from24to27worth4;hear c0n1from27to28");
        x.hold();
        x.order(0, 40);
        x.run(1);
        x.image();
        x.mend(0, true);
        x.dish(0, 1, 1);
        x.craft(1, 1, 11);
        x.rises(0, 0, 5, 1);
        x.rises(0, 1, 9, 4);
        x.rises(0, 1, 8, 7);
        x.rain(0, 0, 7);
        x.table(0, 0, 0, true);
        x.seek();
        x.cell(6, 99);
        x.order(0, 50);
        x.again(0, 0);
        x.drop(1);
        x.worth(1, 77);
        Due.asks(x, "track c1n1from0to1");
        x.run(30);
        x.name(0, 99);
        T.due("undo", x.undo(), 24);
        int[] count = {1, 0, 1, 2, 0, 2, 0, 0, 0, 24, 0, 3, 2};
        for (int what = 0; what < count.length; what++) {
            T.due("count " + what, x.count(what), count[what]);
        }
        int[] craft = {4, 0, 3, 3, 3, 3, 3, 0, 0, 0, 1};
        for (int what = 0; what < craft.length; what++) {
            T.due("craftIs " + what, x.craftIs(0, what), craft[what]);
        }
        T.due("whole", x.dishIs(0, 3), 0);
        T.due("up", x.up(0, 0, 3), 1);
        T.due("up from 3", x.rise(0, 1, 0, 4), 3);
        T.due("rain", x.rain(0, 0, 1), 1);
        T.due("silence", x.silence(0, 0), 1);
        T.due("odds", x.seek(), 5);
        T.due("odds of 6", x.cell(6, 8), 8);
        T.due("not sent again", x.orderIs(0, 0, 1), -1);
        T.due("worth", x.asking(1, 5), 1);
        T.due("planned", x.asking(1, 8), 27);
        x.run(1);
        T.due("goes on", x.asking(0, 6), 2);
        T.due("a block is sent", x.block(0, 0, 2), 24);
        x.undo();
        T.due("the image isn't changed by that", x.block(0, 0, 2), -1);
    }

    private static void whatIsNotKept() {
        FarDishes x = new FarDishes();
        x.sheet(0, 8, 2);
        x.feed('a', 1);
        x.image();
        x.feed('b', 1);
        x.sheet(0, 8, 3);
        x.sheet(1, 8, 4);
        x.run(0);
        x.undo();
        T.due("the tape isn't kept", x.count(10), 2);
        T.due("nor sheets", x.check(0), 3);
        T.due("nor another one", x.check(1), 4);
        T.due("nor status", x.status(-1), 1);
    }

    private static void sendingIsKept() {
        FarDishes x = new FarDishes();
        x.dish(0, 2, 0);
        x.craft(4, 0, 21);
        x.rises(0, 0, 0, 24);
        Due.asks(x, "both c0n1from23to24worth4;hear c0n1from47to48worth4");
        x.hold();
        x.run(23);
        x.order(0, 60);
        x.image();
        x.run(1);
        T.due("the order is done", x.orderIs(0, 0, 3), 1);
        x.run(72);
        T.due("one was dropped", x.craftIs(0, 8), 1);
        T.due("one was lost", x.craftIs(0, 9), 1);
        x.undo();
        T.due("it waits", x.orderIs(0, 0, 3), 0);
        T.due("it wasn't done", x.orderIs(0, 0, 4), -1);
        T.due("none was dropped", x.craftIs(0, 8), 0);
        T.due("none was lost", x.craftIs(0, 9), 0);
        x.mend(0, true);
        x.run(5);
        T.due("it didn't go this time", x.orderIs(0, 0, 3), 0);
        x.order(0, 60);
        x.undo();
        T.due("one order", x.craftIs(0, 10), 1);
    }

    private static void rowsAreNew() {
        FarDishes x = new FarDishes();
        x.image();
        x.dish(1, 2, 2);
        x.craft(4, 0, 21);
        x.rises(0, 1, 0, 24);
        x.rises(0, 0, 0, 24);
        x.table(0, 0, 5, true);
        Due.asks(x, "both c0n1from24to25worth4");
        x.hold();
        x.run(24);
        x.order(0, 90);
        x.run(1);
        x.run(100);
        T.due("dropped", x.craftIs(0, 8), 1);
        T.due("lost", x.craftIs(0, 9), 2);
        Due.asks(x, "hear c0n1from125to126");
        x.hold();
        x.run(1);
        T.due("had", x.name(0, 99), 1);
        x.mend(0, true);
        x.undo();
        x.dish(0, 1, 0);
        T.due("a dish made after undo is whole", x.dishIs(0, 3), 0);
        x.craft(1, 0, 10);
        int[] craft = {1, 0, 1, 0, 0, 0, 0, 0, 0, 0, 0};
        for (int what = 0; what < craft.length; what++) {
            T.due("a craft made after undo, " + what, x.craftIs(0, what), craft[what]);
        }
        T.due("isn't up", x.rises(0, 1, 0, 0), 0);
        T.due("nor elsewhere", x.rises(0, 0, 0, 0), 0);
        T.due("none is heard", x.ever(0), 255);
        T.due("has a table of its own", x.table(0, 0, 0, false), 0);
        x.order(0, 9);
        int[] order = {0, -1, 9, 0, -1};
        for (int what = 0; what < order.length; what++) {
            T.due("an order made after undo, " + what, x.orderIs(0, 0, what), order[what]);
        }
        x.run(5);
        T.due("it waits", x.orderIs(0, 0, 3), 0);
        Due.asks(x, "track c0n1from0to1");
        T.due("an asking made after undo", x.asking(0, 7), -1);
    }

    private static void count() {
        FarDishes x = new FarDishes();
        T.due("13", x.count(13), Due.BEYOND);
        T.due("-1", x.count(-1), Due.BEYOND);
        x.dish(0, 1, 0);
        x.dish(1, 1, 0);
        x.craft(1, 0, 121);
        x.craft(1, 0, 122);
        x.craft(1, 0, 120);
        x.rises(0, 0, 0, 24);
        x.rises(1, 1, 0, 24);
        Due.asks(x, "track c0n1from0to1;track c0n4from22to26;track c0n1from40to41;track c1n1from0to1worth9");
        x.hold();
        x.mend(1, true);
        Due.asks(x, "track c2n1from0to1");
        x.feed(0, 3);
        x.cell(1, 1);
        x.cell(2, 0);
        x.run(24);
        int[] due = {2, 1, 3, 5, 1, 1, 1, 1, 1, 24, 3, 3, 1};
        for (int what = 0; what < due.length; what++) {
            T.due("count " + what, x.count(what), due[what]);
        }
    }

    private static void status() {
        FarDishes x = new FarDishes();
        T.due("none", x.status(-1), 0);
        x.run(0);
        x.run(101);
        for (int i = 0; i < 6; i++) {
            x.dish(0, 1, 0);
        }
        x.dish(0, 1, 0);
        x.craft(1, 0, 10);
        Due.asks(x, "track c0n1from0to1");
        x.as(0, 1);
        x.as(0, 2);
        x.as(0, 3);
        x.seek();
        x.drop(0);
        x.drop(0);
        x.check(0);
        x.sheet(0, 8, -1);
        int[] due = {2, 1, 3, 1, 2, 1, 1};
        for (int which = 0; which < due.length; which++) {
            T.due("status " + which, x.status(which), due[which]);
        }
        T.due("all", x.status(-1), 11);
        T.due("7", x.status(7), Due.BEYOND);
        T.due("-2", x.status(-2), Due.BEYOND);
        T.due("counted from then on", x.status(0), 4);
        T.due("all with these", x.status(-1), 13);
        Due.asks(x, "x");
        T.due("a fault is none", x.status(-1), 13);
    }
}
