/** Section 4 of the terms: blocks, an hour that goes, names, orders. */
final class Terms4Edges {
    private static final String[] KINDS = {"track", "send", "hear", "both", "far", "shared", "array"};

    private Terms4Edges() {
    }

    static void all(Edges t) {
        blocks(t);
        noRoom(t);
        begins(t);
        broken(t);
        howMany(t);
        heldThenOld(t);
        asThisBegan(t);
        ordersGo(t);
        done(t);
        ordersDone(t);
        ordersLate(t);
        makes(t);
        names(t);
        orders(t);
        there(t);
    }

    private static void blocks(Edges t) {
        t.test("Terms 4", "BLOCKS of a CRAFT are numbered from 0 as they are made; it has at most ROOM of them", () -> {
            Run x = t.run().go("craft(1, 0, 12)", "craft(1, 0, 126)", "run(23)").due("block(0, 0, 0)", Due.NONE).go("run(1)");
            x.due("craftIs(0, 4)", 1).due("block(0, 0, 0)", 1).due("block(0, 1, 0)", Due.NONE);
            x.dues("block(1, *, 0)", 0, 1, 2, 3, 4, 5).due("block(1, 6, 0)", Due.NONE);
            x.go("run(24)").dues("block(1, *, 0)", 0, 1, 2, 3, 4, 5, 6, 7, 8, 9, 10, 11).due("block(1, 12, 0)", Due.NONE);
            x.go("run(24)").due("craftIs(1, 4)", 12).due("block(1, 0, 0)", 6).due("block(1, 11, 0)", 17);
            x.due("block(0, 0, 0)", 5).due("craftIs(0, 4)", 1);
        });
        t.test("Terms 4", "each HELD (0), or SENT (1) in an HOUR.", () -> {
            Run x = Made.held(Made.nextDay(t, 0, 122), "hear c0n1from24to25").dues("block(0, *, 1)", 0, 0);
            x.dues("block(0, *, 2)", -1, -1).go("run(1)").dues("block(0, *, 1)", 1, 0).dues("block(0, *, 2)", 24, -1);
        });
    }

    private static void noRoom(Edges t) {
        t.test("Terms 4", "If one is made and there is no ROOM, the one SENT the longest (of like ones the least) goes (it is DROPPED)",
            () -> {
                Run x = Made.held(Made.nextDay(t, 1, 31), "hear c0n1from24to25").go("run(48)").due("craftIs(0, 4)", 3);
                x.due("craftIs(0, 8)", 0);
                Made.held(x, "hear c0n1from72to73").due("block(0, 0, 2)", 24).go("run(1)").due("block(0, 1, 2)", 72);
                x.go("run(23)").dues("block(0, *, 0)", 1, 2, 3).due("craftIs(0, 8)", 1).due("craftIs(0, 9)", 0);
                x.go("run(24)").dues("block(0, *, 0)", 2, 3, 4).due("craftIs(0, 8)", 2).due("craftIs(0, 9)", 0);
            });
        t.test("Terms 4", "the one SENT the longest", () -> {
            Run x = Made.held(Made.nextDay(t, 0, 22), "hear c0n3from24to27").go("run(3)");
            x.dues("block(0, *, 2)", 26, 25).go("run(21)").due("craftIs(0, 8)", 2).due("craftIs(0, 9)", 0);
            Run y = Made.held(Made.oneBlockAnHour(t, 0, 21).go("run(48)"), "hear c0n3from48to51").go("run(3)");
            y.dues("block(0, *, 2)", 50, 49).go("run(21)").dues("block(0, *, 0)", 0, 2).due("craftIs(0, 8)", 1);
        });
        t.test("Terms 4", "(of like ones the least)", () -> {
            Run x = t.run().go("dish(0, 9, 0)", "craft(2, 0, 31)", "rises(0, 0, 0, 24)", "run(72)");
            Made.held(x, "hear c0n1from72to73").go("run(1)").dues("block(0, *, 2)", 72, 72, -1);
            x.go("run(23)").dues("block(0, *, 0)", 1, 2, 3).due("craftIs(0, 8)", 1).due("craftIs(0, 9)", 0);
        });
        t.test("Terms 4", "else the one with the least number (it is LOST).", () -> {
            Run x = Made.oneBlockAnHour(t, 0, 31).go("run(72)").due("craftIs(0, 9)", 0).go("run(24)").due("craftIs(0, 9)", 1);
            x.dues("block(0, *, 0)", 1, 2, 3).due("craftIs(0, 8)", 0).due("craftIs(0, 4)", 3);
            Run y = Made.oneBlockAnHour(t, 0, 16).go("run(24)").due("craftIs(0, 9)", 5).due("block(0, 0, 0)", 5);
            Made.held(y, "hear c0n1from24to25").go("run(24)").due("craftIs(0, 8)", 1).due("craftIs(0, 9)", 10);
            y.due("block(0, 0, 0)", 11);
        });
    }

    private static void begins(Edges t) {
        t.test("Terms 4", "AN HOUR goes: (1) By DISHES: a planned ASKING that begins in it runs.", () -> {
            Run x = Made.held(Made.plans(t, 0).go("dish(0, 1, 0)"), "track c0n2from1to3;track c0n2from1to3");
            x.dues("asking(*, 7)", 0, 1).go("run(1)").dues("asking(*, 6)", 1, 1).dues("dishIs(*, 4)", -1, -1);
            x.go("run(1)").dues("asking(*, 6)", 2, 2).dues("dishIs(*, 4)", 0, 1);
            Run zero = Made.held(Made.plans(t, 0), "track c0n2from0to2").go("run(1)").due("asking(0, 6)", 2);
            zero.go("run(1)").due("asking(0, 6)", 3);
            Run next = Made.held(Made.plans(t, 0), "track c0n1from0to9;track c0n2from0to9").go("run(1)");
            next.dues("asking(*, 6)", 3, 1).due("dishIs(0, 4)", -1).go("run(1)").dues("asking(*, 6)", 3, 2).due("dishIs(0, 4)", 1);
        });
    }

    private static void broken(Edges t) {
        t.test("Terms 4", "(2) By DISHES: an ASKING that runs there: on a BROKEN DISH it is broken", () -> {
            Run x = Made.held(Made.nextDay(t, 0, 33), "both c0n3from25to28").go("run(2)").due("craftIs(0, 5)", 2);
            x.go("mend(0, true)", "order(0, 99)").due("asking(0, 6)", 2).due("dishIs(0, 4)", 0);
            x.go("run(1)").due("asking(0, 6)", 4).due("dishIs(0, 4)", -1).due("craftIs(0, 5)", 2).due("orderIs(0, 0, 3)", 0);
            x.go("mend(0, false)", "run(5)").due("asking(0, 6)", 4).due("craftIs(0, 5)", 2);
        });
        t.test("Terms 4", "on a BROKEN DISH it is broken", () -> {
            Run first = Made.held(Made.plans(t, 0), "track c0n1from0to1").go("mend(0, true)", "run(1)").due("asking(0, 6)", 4);
            first.due("count(8)", 1);
            Run last = Made.held(Made.plans(t, 0), "track c0n2from0to2").go("run(1)", "mend(0, true)", "run(1)");
            last.due("asking(0, 6)", 4).due("count(7)", 0);
            Run mended = Made.held(Made.plans(t, 0), "track c0n1from1to2").go("mend(0, true)", "run(1)").due("asking(0, 6)", 1);
            mended.go("mend(0, false)", "run(1)").due("asking(0, 6)", 3);
            Run behind = Made.held(Made.plans(t, 0), "track c0n1from0to1").go("run(1)", "mend(0, true)", "run(1)");
            behind.due("asking(0, 6)", 3);
        });
    }

    private static void howMany(Edges t) {
        t.test("Terms 4", "else of HEAR, BOTH (those under them, too)", () -> {
            int[] held = {3, 3, 2, 2, 2, 2, 2};
            for (int k = 0; k < 7; k++) {
                Made.held(Made.nextDay(t, 0, 33), KINDS[k] + " c0n1from24to25").go("run(1)").due("craftIs(0, 5)", held[k]);
            }
        });
        t.test("Terms 4", "so many BLOCKS of its CRAFT as LINK by 8", () -> {
            int[] rain = {0, 1, 8, 9};
            int[] sent = {2, 1, 1, 0};
            for (int i = 0; i < rain.length; i++) {
                Run x = t.run().go("dish(0, 4, 0)", "dish(0, 4, 0)", "craft(4, 0, 126)", "craft(4, 0, 126)");
                x.go("rises(0, 0, 0, 24)", "rain(0, 1, " + rain[i] + ")", "run(24)");
                Made.held(x, "hear c0n1from24to25").go("run(1)").due("craftIs(0, 5)", 6 - sent[i]).due("craftIs(1, 5)", 6);
            }
            Run all = t.run().go("dish(0, 9, 0)", "craft(9, 0, 126)", "rises(0, 0, 0, 24)", "run(48)");
            Made.held(all, "hear c0n1from48to49").go("run(1)").due("craftIs(0, 5)", 2);
            Run none = t.run().go("dish(0, 2, 0)", "craft(4, 0, 120)", "rises(0, 0, 0, 24)", "sheet(0, 8, 1)");
            Made.held(none, "hear c0n1from0to1").due("check(0)", 1).go("run(1)").due("craftIs(0, 4)", 0).due("asking(0, 6)", 3);
        });
    }

    private static void heldThenOld(Edges t) {
        t.test("Terms 4", "HELD ones by numbers, then those that were SENT 2 times FAR HOURS ago or more (as this began) by numbers: each"
            + " is SENT in this HOUR (again).", () -> {
            Run x = t.run().go("dish(0, 6, 0)", "craft(4, 1, 122)", "rises(0, 0, 0, 24)", "run(24)");
            Made.held(x, "hear c0n1from24to25;hear c0n2from48to50").go("run(25)");
            x.dues("block(0, *, 2)", 48, 24, 48, 48).go("run(1)").dues("block(0, *, 2)", 48, 49, 48, 48);
        });
        t.test("Terms 4", "SENT 2 times FAR HOURS ago or more", () -> {
            Run x = Made.held(Made.nextDay(t, 2, 121), "hear c0n9from24to33").go("run(4)").due("block(0, 0, 2)", 24);
            x.go("run(1)").due("block(0, 0, 2)", 28).go("run(3)").due("block(0, 0, 2)", 28).go("run(1)").due("block(0, 0, 2)", 32);
            Run far = t.run().go("dish(0, 9, 0)", "craft(4, 30, 121)", "rises(0, 0, 0, 24)", "run(24)");
            Made.held(far, "hear c0n1from24to25;hear c0n2from83to85").go("run(60)").dues("block(0, *, 2)", 24, 83, 83);
            far.go("run(1)").dues("block(0, *, 2)", 84, 83, 83);
        });
    }

    private static void asThisBegan(Edges t) {
        t.test("Terms 4", "(as this began)", () -> {
            Run x = t.run().go("dish(0, 9, 0)", "craft(9, 0, 123)", "rises(0, 0, 0, 24)", "run(24)", "sheet(0, 8, 3)");
            Made.held(x, "hear c0n2from24to26").go("write(0, 0, 3)", "write(0, 1, 3)").due("check(0)", 3);
            x.go("write(0, 0, 6)").due("check(0)", 0).go("write(0, 0, 3)", "run(2)").dues("block(0, *, 2)", 25, 25, 25);
        });
    }

    private static void ordersGo(Edges t) {
        t.test("Terms 4", "ORDERS that are sent, or sent again, in this HOUR GO if a SEND or BOTH (those under them, too) of their CRAFT"
            + " runs now.", () -> {
            int[] state = {0, 1, 0, 1, 1, 0, 0};
            for (int k = 0; k < 7; k++) {
                Run x = Made.oneBlockAnHour(t, 0, 10).go("craft(1, 0, 10)", "order(0, 9)", "order(1, 9)");
                Made.held(x, KINDS[k] + " c0n1from0to1").go("run(1)").due("orderIs(0, 0, 3)", state[k]).due("orderIs(1, 0, 3)", 0);
            }
        });
        t.test("Terms 4", "or sent again, in this HOUR", () -> {
            Run x = Made.held(Made.oneBlockAnHour(t, 0, 10), "send c0n2from1to3").go("order(0, 9)", "order(0, 9)", "run(1)");
            x.dues("orderIs(0, *, 3)", 0, 0).go("again(0, 0)", "run(1)").dues("orderIs(0, *, 3)", 1, 0);
            x.go("run(1)").due("orderIs(0, 1, 3)", 0).go("again(0, 1)", "run(1)").due("orderIs(0, 1, 3)", 0);
        });
    }

    private static void done(Edges t) {
        t.test("Terms 4", "(3) An ASKING that runs and has had its N HOURS is done.", () -> {
            Run x = Made.held(Made.plans(t, 0), "track c0n1from0to1;track c0n9from1to10").go("run(1)").dues("asking(*, 6)", 3, 1);
            x.go("run(8)").dues("asking(*, 6)", 3, 2).go("run(1)").dues("asking(*, 6)", 3, 3).due("count(9)", 10);
            Run jump = Made.held(Made.plans(t, 0), "track c0n9from1to10").go("run(100)").due("asking(0, 6)", 3).due("count(7)", 1);
            jump.due("dishIs(0, 4)", -1);
        });
    }

    private static void ordersDone(Edges t) {
        t.test("Terms 4", "(4) By CRAFT and numbers, of ORDERS that wait: one that is THERE, and of whose CRAFT all with lesser numbers"
            + " are done or late, is done", () -> {
            Run x = Made.held(Made.oneBlockAnHour(t, 0, 10), "send c0n1from1to2").go("order(0, 3)", "run(1)", "order(0, 9)");
            x.go("order(0, 9)", "run(1)").dues("orderIs(0, *, 3)", 0, 0, 0).go("run(1)").dues("orderIs(0, *, 3)", 0, 0, 0);
            x.go("run(1)").dues("orderIs(0, *, 3)", 2, 1, 1).dues("orderIs(0, *, 4)", -1, 3, 3);
            Run other = Made.oneBlockAnHour(t, 0, 10).go("craft(1, 0, 10)", "rises(1, 0, 0, 24)", "order(0, 9)", "order(1, 9)");
            Made.held(other, "send c1n1from0to1").go("run(1)").due("orderIs(0, 0, 3)", 0).due("orderIs(1, 0, 3)", 1);
        });
    }

    private static void ordersLate(Edges t) {
        t.test("Terms 4", "another one whose LAST HOUR is this one, or was, is late.", () -> {
            Run x = Made.oneBlockAnHour(t, 0, 10).go("order(0, 0)", "order(0, 1)", "run(1)").dues("orderIs(0, *, 3)", 2, 0);
            x.go("run(1)").dues("orderIs(0, *, 3)", 2, 2).dues("orderIs(0, *, 4)", -1, -1);
            Run last = Made.held(Made.oneBlockAnHour(t, 3, 10), "send c0n1from0to1").go("order(0, 3)", "order(0, 2)", "run(3)");
            last.dues("orderIs(0, *, 3)", 0, 2).go("run(1)").dues("orderIs(0, *, 3)", 1, 2).due("orderIs(0, 0, 4)", 3);
            Run behind = Made.held(Made.oneBlockAnHour(t, 0, 10), "send c0n1from1to2").go("order(0, 9)", "run(1)", "order(0, 1)");
            behind.go("run(1)").dues("orderIs(0, *, 3)", 0, 2);
        });
    }

    private static void makes(Edges t) {
        t.test("Terms 4", "(5) At CLOCK 23 each CRAFT makes RATE BLOCKS.", () -> {
            Run x = t.run().go("craft(1, 0, 120)", "craft(1, 0, 121)", "craft(1, 0, 126)", "run(23)").due("count(11)", 0);
            x.go("run(1)").due("count(11)", 7).due("craftIs(0, 6)", 0).due("craftIs(1, 6)", 1).due("craftIs(2, 6)", 6);
            x.go("run(23)").due("count(11)", 7).go("run(1)").due("count(11)", 14);
        });
        t.test("Terms 4", "(5) At CLOCK 23 each CRAFT makes RATE BLOCKS.", () -> {
            Run x = Made.held(Made.oneBlockAnHour(t, 0, 121), "hear c0n2from23to25").go("run(24)").due("block(0, 0, 1)", 0);
            x.go("run(1)").due("block(0, 0, 2)", 24);
        });
        t.test("Terms 4", "(6) The next HOUR is open.", () -> {
            Run x = t.run().due("count(9)", 0).go("run(1)").due("count(9)", 1).go("run(23)").due("count(9)", 24);
            x.go("run(100)").due("count(9)", 124);
        });
    }

    private static void names(Edges t) {
        t.test("Terms 4", "TO NAME BLOCKS: those of a CRAFT up to a number that were SENT FAR HOURS ago or more are HAD: they are no"
            + " more.", () -> {
            Run x = Made.held(Made.nextDay(t, 2, 124), "hear c0n3from24to27").due("name(0, 99)", 0);
            x.go("run(1)").due("name(0, 99)", 0).go("run(1)").due("name(0, 99)", 1).due("block(0, 0, 0)", 1).due("craftIs(0, 4)", 3);
            x.go("run(2)").due("name(0, 0)", 0).due("name(0, 1)", 1).due("name(0, 99)", 1).due("craftIs(0, 7)", 3);
            x.due("craftIs(0, 4)", 1).due("block(0, 0, 0)", 3).due("block(0, 0, 1)", 0).due("craftIs(0, 8)", 0);
            Run far = Made.held(Made.nextDay(t, 0, 122), "hear c0n1from24to25").go("run(1)").due("name(0, 99)", 1);
            far.due("block(0, 0, 0)", 1).due("craftIs(0, 6)", 2);
            Run most = Made.held(Made.nextDay(t, 30, 121), "hear c0n1from24to25").go("run(29)").due("name(0, 0)", 0);
            most.go("run(1)").due("name(0, 0)", 1);
        });
    }

    private static void orders(Edges t) {
        t.test("Terms 4", "ORDERS 0, 1, .. (at most 12 of a CRAFT)", () -> {
            Run x = t.run().go("craft(1, 0, 10)", "craft(1, 0, 10)");
            for (int o = 0; o < 12; o++) {
                x.due("orderIs(0, " + o + ", 3)", Due.BEYOND).due("order(0, 5)", o).due("craftIs(0, 10)", o + 1);
            }
            x.due("order(0, 5)", Due.FULL).due("orderIs(0, 11, 3)", 0).due("orderIs(0, 12, 3)", Due.BEYOND).due("order(1, 5)", 0);
            x.go("run(6)").due("order(0, 9)", Due.FULL).due("craftIs(0, 10)", 12);
        });
        t.test("Terms 4", "sent in an HOUR, and perhaps once again in a later one, with a LAST HOUR", () -> {
            Run x = t.run().go("craft(1, 0, 10)", "order(0, 2000)").dues("orderIs(0, 0, *)", 0, -1, 2000, 0, -1);
            x.due("again(0, 0)", Due.STATE).go("run(1)").due("again(0, 0)", 1).due("again(0, 0)", Due.STATE);
            x.go("run(1)").due("again(0, 0)", Due.STATE).dues("orderIs(0, 0, *)", 0, 1, 2000, 0, -1);
        });
        t.test("Terms 4", "each waits (0), is done (1), or late (2).", () -> {
            Run x = Made.held(Made.oneBlockAnHour(t, 0, 10), "send c0n1from0to1").go("order(0, 0)", "run(1)");
            x.go("order(0, 1)", "order(0, 9)", "run(1)").dues("orderIs(0, *, 3)", 1, 2, 0).dues("orderIs(0, *, 4)", 0, -1, -1);
        });
    }

    private static void there(Edges t) {
        t.test("Terms 4", "One that GOES is THERE from FAR HOURS later on (by the first time when it does).", () -> {
            Run x = Made.held(Made.oneBlockAnHour(t, 3, 10), "send c0n9from0to9").go("order(0, 99)", "run(1)", "again(0, 0)");
            x.go("run(2)").due("orderIs(0, 0, 3)", 0).go("run(1)").due("orderIs(0, 0, 4)", 3);
            Run second = Made.held(Made.oneBlockAnHour(t, 3, 10), "send c0n9from1to10").go("order(0, 99)", "run(1)", "again(0, 0)");
            second.go("run(3)").due("orderIs(0, 0, 3)", 0).go("run(1)").due("orderIs(0, 0, 4)", 4);
            Run soon = Made.held(Made.oneBlockAnHour(t, 0, 10), "send c0n1from0to1").go("order(0, 0)", "run(1)");
            soon.dues("orderIs(0, 0, *)", 0, -1, 0, 1, 0);
        });
    }
}
