/** Promises 26 to 29 and 39: hours, blocks, and records of them. */
public final class HoursTest {
    private static final Due T = new Due();

    public static void main(String[] args) {
        run();
        askingsRun();
        brokenDishes();
        blocksAreMade();
        blocksAreSent();
        sentAgain();
        sentWithoutDelay();
        kindsThatHear();
        droppedAndLost();
        block();
        name();
        over();
        check();
        T.end();
    }

    /** Dish 0 (size 2) and craft 0 (loud 4: link 8, one block an hour) that is always up. */
    private static FarDishes oneBlockAnHour(int far, int blocks) {
        FarDishes x = new FarDishes();
        x.dish(0, 2, 0);
        x.craft(4, far, blocks);
        x.rises(0, 0, 0, 24);
        return x;
    }

    private static void run() {
        FarDishes x = new FarDishes();
        T.due("run 0", x.run(0), Due.BEYOND);
        T.due("run 101", x.run(101), Due.BEYOND);
        T.due("run -1", x.run(-1), Due.BEYOND);
        T.due("run 1", x.run(1), 1);
        for (int i = 1; i <= 19; i++) {
            T.due("run 100", x.run(100), 1 + 100 * i);
        }
        T.due("above 2000", x.run(100), Due.FULL);
        T.due("beyond ahead of full", x.run(101), Due.BEYOND);
        T.due("to 2000", x.run(99), 2000);
        T.due("no more", x.run(1), Due.FULL);
        T.due("open", x.count(9), 2000);
    }

    private static void askingsRun() {
        FarDishes x = oneBlockAnHour(0, 10);
        Due.asks(x, "track c0n2from3to5;track c0n1from5to6");
        x.hold();
        x.run(3);
        T.due("planned till its hour goes", x.asking(0, 6), 1);
        x.run(1);
        T.due("runs", x.asking(0, 6), 2);
        T.due("one runs", x.count(6), 1);
        x.run(1);
        T.due("done", x.asking(0, 6), 3);
        T.due("the next is planned", x.asking(1, 6), 1);
        x.run(1);
        T.due("of one hour: done as the hour has gone", x.asking(1, 6), 3);
        T.due("two are done", x.count(7), 2);
    }

    private static void brokenDishes() {
        FarDishes x = oneBlockAnHour(0, 33);
        x.run(24);
        Due.asks(x, "hear c0n3from25to28;hear c0n1from29to30");
        x.hold();
        x.run(2);
        T.due("one block is sent", x.craftIs(0, 5), 2);
        x.mend(0, true);
        T.due("runs until the hour goes", x.asking(0, 6), 2);
        x.run(1);
        T.due("broken", x.asking(0, 6), 4);
        T.due("no block is sent", x.craftIs(0, 5), 2);
        T.due("the next is planned still", x.asking(1, 6), 1);
        x.run(3);
        T.due("the next is broken as it begins", x.asking(1, 6), 4);
        T.due("broken ones", x.count(8), 2);
        T.due("none runs there", x.dishIs(0, 4), -1);
        x = oneBlockAnHour(0, 33);
        Due.asks(x, "track c0n1from5to6");
        x.hold();
        x.mend(0, true);
        x.run(5);
        x.mend(0, false);
        x.run(1);
        T.due("whole again in time", x.asking(0, 6), 3);
    }

    private static void blocksAreMade() {
        FarDishes x = oneBlockAnHour(0, 122);
        x.run(23);
        T.due("not ahead of clock 23", x.craftIs(0, 4), 0);
        x.run(1);
        T.due("at clock 23", x.craftIs(0, 4), 2);
        x.run(23);
        T.due("next day not yet", x.craftIs(0, 6), 2);
        x.run(1);
        T.due("next day", x.craftIs(0, 6), 4);
        T.due("blocks of all", x.count(11), 4);
    }

    private static void blocksAreSent() {
        FarDishes x = new FarDishes();
        x.dish(0, 9, 0);
        x.craft(3, 5, 125);
        x.rises(0, 0, 0, 24);
        x.rain(0, 1, 3);
        x.run(24);
        Due.asks(x, "hear c0n1from24to25");
        x.hold();
        x.run(1);
        T.due("27 less rain 3 by 8: three", x.craftIs(0, 5), 2);
        int[] state = {1, 1, 1, 0, 0};
        int[] hour = {24, 24, 24, -1, -1};
        for (int i = 0; i < 5; i++) {
            T.due("number " + i, x.block(0, i, 0), i);
            T.due("state " + i, x.block(0, i, 1), state[i]);
            T.due("hour " + i, x.block(0, i, 2), hour[i]);
        }
        x.rain(0, 1, 4);
        Due.asks(x, "hear c0n1from25to26");
        x.hold();
        x.run(1);
        T.due("23 by 8: two", x.craftIs(0, 5), 0);
        T.due("sent", x.block(0, 4, 2), 25);
        T.due("not again yet", x.block(0, 0, 2), 24);
    }

    private static void sentAgain() {
        FarDishes x = oneBlockAnHour(2, 122);
        x.run(24);
        Due.asks(x, "hear c0n8from24to32");
        x.hold();
        x.run(2);
        T.due("0 sent", x.block(0, 0, 2), 24);
        T.due("1 sent", x.block(0, 1, 2), 25);
        x.run(2);
        T.due("not 4 hours ago", x.block(0, 0, 2), 24);
        x.run(1);
        T.due("0 again after 4 hours", x.block(0, 0, 2), 28);
        T.due("1 not yet", x.block(0, 1, 2), 25);
        x.run(1);
        T.due("1 again", x.block(0, 1, 2), 29);
        x.run(2);
        T.due("nothing to send", x.block(0, 0, 2), 28);
        x = new FarDishes();
        x.dish(0, 6, 0);
        x.craft(4, 1, 122);
        x.rises(0, 0, 0, 24);
        x.run(24);
        Due.asks(x, "hear c0n1from24to25;hear c0n1from48to49");
        x.hold();
        x.run(24);
        x.run(1);
        T.due("held ones ahead of old ones: 2", x.block(0, 2, 2), 48);
        T.due("3", x.block(0, 3, 2), 48);
        T.due("then the oldest number", x.block(0, 0, 2), 48);
        T.due("no more than 3", x.block(0, 1, 2), 24);
    }

    /** With FAR 0 one that was held as the sending began is not sent twice by it. */
    private static void sentWithoutDelay() {
        FarDishes x = new FarDishes();
        x.dish(0, 4, 0);
        x.dish(0, 4, 0);
        x.craft(4, 0, 123);
        x.rises(0, 0, 0, 24);
        x.run(24);
        Due.asks(x, "hear c0n1from24to25;hear c0n1from24to25");
        x.hold();
        x.sheet(0, 8, 1);
        x.write(0, 0, 4);
        T.due("two, then one held and one again", x.check(0), 1);
        x.run(1);
        T.due("all sent", x.craftIs(0, 5), 0);
        x = new FarDishes();
        x.dish(0, 9, 0);
        x.craft(9, 0, 123);
        x.rises(0, 0, 0, 24);
        x.run(24);
        Due.asks(x, "hear c0n2from24to26");
        x.hold();
        x.sheet(0, 8, 2);
        x.write(0, 0, 3);
        x.write(0, 1, 3);
        T.due("each once an hour", x.check(0), 2);
    }

    private static void kindsThatHear() {
        String[] kinds = {"track", "send", "hear", "both", "far", "shared", "array"};
        int[] held = {3, 3, 2, 2, 2, 2, 2};
        for (int k = 0; k < kinds.length; k++) {
            FarDishes x = oneBlockAnHour(0, 33);
            x.run(24);
            Due.asks(x, kinds[k] + " c0n1from24to25");
            x.hold();
            x.run(1);
            T.due(kinds[k] + " sends blocks", x.craftIs(0, 5), held[k]);
            T.due(kinds[k] + " is done", x.asking(0, 6), 3);
        }
    }

    private static void droppedAndLost() {
        FarDishes x = oneBlockAnHour(0, 42);
        x.run(48);
        Due.asks(x, "hear c0n1from48to49");
        x.hold();
        x.run(24);
        T.due("the sent one goes first", x.craftIs(0, 8), 1);
        T.due("then the least one", x.craftIs(0, 9), 1);
        T.due("four stay", x.craftIs(0, 4), 4);
        for (int i = 0; i < 4; i++) {
            T.due("stays " + i, x.block(0, i, 0), i + 2);
        }
        x = oneBlockAnHour(0, 42);
        x.run(24);
        Due.asks(x, "hear c0n1from24to25");
        x.hold();
        x.run(24);
        Due.asks(x, "hear c0n3from48to51");
        x.hold();
        x.run(2);
        T.due("1 is sent in 48", x.block(0, 1, 2), 48);
        T.due("2 is sent in 49", x.block(0, 2, 2), 49);
        T.due("0 was sent in 24", x.block(0, 0, 2), 24);
        x.run(22);
        T.due("two are dropped", x.craftIs(0, 8), 2);
        T.due("0 and 1 went, sent the longest", x.block(0, 0, 0), 2);
        T.due("none is lost", x.craftIs(0, 9), 0);
        x = new FarDishes();
        x.dish(0, 6, 0);
        x.craft(4, 0, 41);
        x.rises(0, 0, 0, 24);
        x.run(72);
        Due.asks(x, "hear c0n1from72to73");
        x.hold();
        x.run(48);
        T.due("of like ones the least", x.block(0, 0, 0), 1);
        T.due("one of three was dropped", x.craftIs(0, 8), 1);
    }

    private static void block() {
        FarDishes x = oneBlockAnHour(0, 42);
        T.due("no block", x.block(0, 0, 0), Due.NONE);
        x.run(24);
        T.due("first", x.block(0, 0, 0), 0);
        T.due("second", x.block(0, 1, 0), 1);
        T.due("third", x.block(0, 2, 0), Due.NONE);
        T.due("-1", x.block(0, -1, 0), Due.NONE);
        T.due("what 3 ahead of none", x.block(0, 2, 3), Due.BEYOND);
        T.due("what -1", x.block(0, 0, -1), Due.BEYOND);
        T.due("no craft", x.block(1, 0, 0), Due.BEYOND);
        T.due("craft -1", x.block(-1, 0, 0), Due.BEYOND);
        T.due("held", x.block(0, 0, 1), 0);
        T.due("no hour", x.block(0, 0, 2), -1);
    }

    private static void name() {
        FarDishes x = oneBlockAnHour(2, 124);
        x.run(24);
        Due.asks(x, "hear c0n3from24to27");
        x.hold();
        x.run(1);
        T.due("1 hour ago", x.name(0, 9), 0);
        x.run(1);
        T.due("-1", x.name(0, -1), Due.BEYOND);
        T.due("no craft", x.name(1, 0), Due.BEYOND);
        T.due("2 hours ago: one", x.name(0, Integer.MAX_VALUE), 1);
        x.run(2);
        T.due("up to 0: none", x.name(0, 0), 0);
        T.due("up to 1", x.name(0, 1), 1);
        T.due("up to 3: not the held one", x.name(0, 3), 1);
        T.due("had", x.craftIs(0, 7), 3);
        T.due("left", x.craftIs(0, 4), 1);
        T.due("left is 3", x.block(0, 0, 0), 3);
        x.run(20);
        T.due("numbers go on", x.block(0, 1, 0), 4);
    }

    private static void over() {
        FarDishes x = oneBlockAnHour(0, 43);
        T.due("n 0", x.over(0, 0), Due.BEYOND);
        T.due("n 10", x.over(0, 10), Due.BEYOND);
        T.due("no craft", x.over(1, 1), Due.BEYOND);
        T.due("a day", x.over(0, 1), 0);
        T.due("two days", x.over(0, 2), 2);
        T.due("nine days", x.over(0, 9), 23);
        x.run(24);
        Due.asks(x, "hear c0n2from24to26");
        x.hold();
        T.due("tracks don't count", x.over(0, 1), 2);
        x.run(2);
        T.due("two sent ones are dropped", x.over(0, 1), 0);
        T.due("and then some are lost", x.over(0, 2), 3);
        T.due("nothing changes", x.craftIs(0, 4), 3);
        T.due("nothing is lost", x.craftIs(0, 9), 0);
        x.run(21);
        T.due("from clock 23 on", x.over(0, 1), 0);
        x.craft(1, 0, 10);
        T.due("no rate", x.over(1, 9), 0);
    }

    private static void check() {
        FarDishes x = oneBlockAnHour(1, 123);
        x.craft(8, 0, 121);
        x.dish(0, 1, 0);
        x.rises(1, 0, 0, 24);
        T.due("no sheet", x.check(4), Due.BEYOND);
        T.due("sheet -1", x.check(-1), Due.BEYOND);
        T.due("missing", x.check(0), Due.MISSING);
        x.sheet(0, 8, 0);
        T.due("none", x.check(0), 0);
        x.run(24);
        Due.asks(x, "hear c0n4from25to29worth9;hear c1n2from26to28worth9");
        x.hold();
        x.sheet(1, 32, 6);
        int[] due = {0, 1, 2, 2, 1, 0};
        T.due("the dish of 1", x.asking(1, 7), 1);
        for (int i = 0; i < due.length; i++) {
            x.write(1, i, due[i]);
        }
        T.due("all as they would be", x.check(1), 6);
        T.due("nothing changes", x.count(9), 24);
        T.due("nothing is sent", x.craftIs(0, 5), 3);
        x.write(1, 5, 1);
        T.due("last is wrong", x.check(1), 5);
        x.write(1, 2, 1);
        T.due("third is wrong", x.check(1), 2);
        x.write(1, 0, -1);
        T.due("first is wrong", x.check(1), 0);
        x.mend(0, true);
        x.write(1, 0, 0);
        T.due("a broken dish", x.check(1), 1);
        x = new FarDishes();
        x.dish(0, 1, 0);
        x.dish(2, 4, 0);
        x.craft(4, 1, 31);
        x.rises(0, 2, 0, 24);
        x.rain(2, 1, 1);
        x.run(20);
        Due.asks(x, "hear c0n9from22to31");
        x.hold();
        x.sheet(2, 16, 11);
        int[] later = {0, 0, 0, 0, 1, 0, 1, 0, 1, 0, 1};
        for (int i = 0; i < later.length; i++) {
            x.write(2, i, later[i]);
        }
        T.due("blocks that will be made, rain at its place, again after 2 hours", x.check(2), 11);
        x.rain(2, 1, 9);
        T.due("too much rain", x.check(2), 4);
        Due.asks(x, "track c0n1from31to32;send c0n1from32to33");
        x.hold();
        x.run(11);
        x.sheet(3, 8, 3);
        T.due("track and send hear nothing", x.check(3), 3);
    }
}
