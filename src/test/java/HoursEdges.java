/** Promises 26 to 29: hours, blocks. */
final class HoursEdges {
    private static final int LEAST = Integer.MIN_VALUE;
    private static final int MOST = Integer.MAX_VALUE;

    private HoursEdges() {
    }

    static void all(Edges t) {
        run(t);
        block(t);
        name(t);
        over(t);
    }

    /** Much is there, and an HOUR from 1925 on is open. */
    private static Run late(Edges t, int hour) {
        Run x = Made.busy(t);
        for (int i = 0; i < 19; i++) {
            x.go("run(100)");
        }
        return hour == 1925 ? x : x.due("run(" + (hour - 1925) + ")", hour);
    }

    private static void run(Edges t) {
        t.test("Promise 26", "n HOURS (1 to 100) go: the open one then.", () -> {
            t.run().due("run(1)", 1).due("run(100)", 101).due("run(99)", 200).due("count(9)", 200);
            Run one = Made.nextDay(t, 1, 125);
            Run many = Made.held(Made.nextDay(t, 1, 125), "both c0n9from30to40").go("order(0, 60)").due("run(100)", 124);
            Made.held(one, "both c0n9from30to40").go("order(0, 60)");
            for (int i = 0; i < 100; i++) {
                one.due("run(1)", 25 + i);
            }
            for (int what = 0; what <= 10; what++) {
                one.due("craftIs(0, " + what + ")", many.ask("craftIs(0, " + what + ")"));
            }
            one.due("orderIs(0, 0, 3)", many.ask("orderIs(0, 0, 3)")).due("asking(0, 6)", 3);
        });
        t.test("Promise 26", "BEYOND: n.", () -> {
            t.refused(Due.BEYOND, "run(0)", "run(101)", "run(-1)", "run(" + LEAST + ")", "run(" + MOST + ")");
            t.refused(() -> late(t, 2000), Due.BEYOND, "run(0)", "run(101)", "run(" + MOST + ")");
        });
        t.test("Promise 26", "FULL: it would be above 2000.", () -> {
            t.refused(() -> late(t, 2000), Due.FULL, "run(1)", "run(100)");
            t.refused(() -> late(t, 1925), Due.FULL, "run(76)", "run(100)");
            late(t, 1925).due("run(75)", 2000).due("run(1)", Due.FULL).due("count(9)", 2000);
            late(t, 1999).due("run(2)", Due.FULL).due("run(1)", 2000);
            late(t, 2000).due("order(1, 2000)", 2).due("hold()", 0).due("undo()", 20).due("run(1)", 21);
        });
    }

    private static void block(Edges t) {
        t.test("Promise 27", "Of BLOCK i of a CRAFT (from 0, by numbers): what 0 its number, 1 0 HELD or 1 SENT, 2 the HOUR in which it"
            + " was SENT last (-1).", () -> {
            Run x = Made.busy(t).dues("block(0, *, 0)", 0, 1, 2).dues("block(0, *, 1)", 1, 1, 1).dues("block(0, *, 2)", 24, 24, 24);
            x.dues("block(1, 5, *)", 5, 0, -1).dues("block(1, 4, *)", 4, 1, 24).go("run(1)").dues("block(0, 0, *)", 0, 1, 25);
            x.go("name(0, 0)").dues("block(0, 0, *)", 1, 1, 25);
            Run all = Made.oneBlockAnHour(t, 0, 126).go("run(72)").dues("block(0, 11, *)", 17, 0, -1).dues("block(0, 0, *)", 6, 0, -1);
            all.due("block(0, 12, 0)", Due.NONE);
        });
        t.test("Promise 27", "BEYOND: no such CRAFT, what.", () -> {
            t.refused(Due.BEYOND, "block(-1, 0, 0)", "block(3, 0, 0)", "block(0, 0, -1)", "block(0, 0, 3)", "block(2, 0, 3)",
                "block(0, 3, -1)", "block(0, " + MOST + ", 3)");
            t.refused(() -> t.run(), Due.BEYOND, "block(0, 0, 0)");
        });
        t.test("Promise 27", "NONE: it has not so many.", () -> {
            t.refused(Due.NONE, "block(0, 3, 0)", "block(1, 6, 1)", "block(2, 0, 2)", "block(0, " + MOST + ", 0)", "block(0, -1, 0)",
                "block(2, " + LEAST + ", 0)");
            t.refused(() -> t.run().go("craft(1, 0, 126)", "run(23)"), Due.NONE, "block(0, 0, 0)");
            Made.busy(t).due("block(0, 2, 0)", 2).go("name(0, 2)").due("block(0, 0, 0)", Due.NONE);
        });
    }

    private static void name(Edges t) {
        t.test("Promise 28", "BLOCKS of a CRAFT up to a number (0 or more) are NAMED: how many are HAD.", () -> {
            Run x = Made.busy(t).due("name(1, " + MOST + ")", 0).due("name(0, 0)", 1).due("name(0, 0)", 0).due("name(0, 1)", 1);
            x.due("name(0, " + MOST + ")", 1).due("craftIs(0, 7)", 3).due("craftIs(0, 4)", 0).due("name(0, " + MOST + ")", 0);
            x.due("name(2, 0)", 0).due("craftIs(1, 7)", 0).go("run(1)").due("name(1, 99)", 5).due("craftIs(1, 4)", 1);
        });
        t.test("Promise 28", "BEYOND.", () -> {
            t.refused(Due.BEYOND, "name(-1, 0)", "name(3, 0)", "name(0, -1)", "name(0, " + LEAST + ")");
            t.refused(() -> t.run(), Due.BEYOND, "name(0, 0)");
        });
    }

    private static void over(Edges t) {
        t.test("Promise 29", "BLOCKS of a CRAFT that would be LOST in n DAYS (1 to 9) without any TRACK, from the open HOUR on (nothing"
            + " changes).", () -> {
            Run x = t.run().go("craft(1, 0, 43)", "craft(1, 0, 126)", "craft(1, 0, 120)", "craft(1, 0, 16)");
            x.due("over(0, 1)", 0).due("over(0, 2)", 2).due("over(0, 9)", 23).due("over(1, 2)", 0).due("over(1, 3)", 6);
            x.due("over(1, 9)", 42).due("over(2, 9)", 0).due("over(3, 1)", 5).due("over(3, 9)", 53);
            x.go("run(23)").due("over(0, 1)", 0).due("over(0, 2)", 2).go("run(1)").due("over(0, 1)", 2).due("over(0, 9)", 26);
            Run sent = Made.busy(t).due("over(0, 1)", 0).due("over(0, 2)", 2).due("over(0, 9)", 23).due("over(1, 1)", 0);
            sent.due("over(1, 2)", 1).due("over(1, 9)", 43);
            Run held = Made.held(Made.nextDay(t, 0, 33), "hear c0n3from24to27").due("over(0, 1)", 3).go("run(1)").due("over(0, 1)", 2);
            held.go("run(2)").due("over(0, 1)", 0).due("over(0, 2)", 3);
            t.unchanged(() -> Made.busy(t), "over(0, 9)", 23);
            t.unchanged(() -> late(t, 2000), "over(1, 9)", 54);
        });
        t.test("Promise 29", "BEYOND.", () -> {
            t.refused(Due.BEYOND, "over(-1, 1)", "over(3, 1)", "over(0, 0)", "over(0, 10)", "over(0, -1)", "over(0, " + MOST + ")",
                "over(0, " + LEAST + ")");
            t.refused(() -> t.run(), Due.BEYOND, "over(0, 1)");
        });
    }
}
