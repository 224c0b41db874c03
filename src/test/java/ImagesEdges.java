/** Promises 43 to 47: images, count, status. */
final class ImagesEdges {
    private static final int LEAST = Integer.MIN_VALUE;
    private static final int MOST = Integer.MAX_VALUE;
    /** Each changes something of what sections 1 to 5 tell. */
    private static final String[] CHANGES = {"rain(0, 0, 1)", "dish(0, 1, 1)", "mend(0, true)", "mend(2, false)", "craft(1, 1, 11)",
        "rises(0, 0, 0, 23)", "rises(1, 1, 21, 10)", "worth(5, 4)", "worth(3, 1)", "hold()", "drop(4)", "run(1)", "run(100)", "name(0, 9)", "order(0, 99)",
        "again(1, 1)", "table(0, 0, 2, false)", "table(0, 0, 1, true)", "cell(5, 8)", "cell(63, 99)", "seek()"};

    private ImagesEdges() {
    }

    static void all(Edges t) {
        image(t);
        madeAnew(t);
        undo(t);
        tear(t);
        count(t);
        status(t);
    }

    private static void image(Edges t) {
        t.test("Promise 43", "All that sections 1 to 5 tell (THE TAPE not) is kept: 1.", () -> {
            for (String change : CHANGES) {
                String first = Edges.firstChange(() -> Made.busy(t).due("image()", 1).go(change), "undo()", () -> Made.busy(t).go("image()"));
                t.due("undo() behind " + change + " brings back all" + first, first.isEmpty() ? 0 : 1, 0);
            }
        });
        t.test("Promise 43", "(THE TAPE not)", () -> {
            Run x = t.run().go("craft(1, 0, 10)").feed("far c0n1").due("image()", 1).feed("from0to1").due("undo()", 0).due("count(10)", 16);
            x.due("asks()", 1).due("undo()", 0).due("count(3)", 0).due("count(10)", 0);
            t.run().go("sheet(0, 8, 2)", "image()", "sheet(0, 8, 3)", "sheet(1, 8, 4)", "undo()").due("check(0)", 3).due("check(1)", 4);
            t.run().go("image()").due("run(0)", Due.BEYOND).go("undo()").due("status(-1)", 1).due("status(0)", 1);
        });
        t.test("Promise 43", "All that sections 1 to 5 tell (THE TAPE not) is kept: 1.", () -> {
            Run x = Made.held(Made.oneBlockAnHour(t, 2, 10), "send c0n1from0to1").go("order(0, 9)", "image()", "run(3)");
            x.due("orderIs(0, 0, 4)", 2).due("undo()", 0).due("orderIs(0, 0, 4)", -1).due("orderIs(0, 0, 3)", 0);
            x.go("mend(0, true)", "run(9)").due("orderIs(0, 0, 3)", 0).go("run(1)").due("orderIs(0, 0, 3)", 2);
        });
        t.test("Promise 43", "All that sections 1 to 5 tell (THE TAPE not) is kept: 1.", () -> {
            Run x = full(t).due("image()", 1).go("run(1)").due("undo()", 0).dues("count(*)", 6, 0, 8, 14, 14, 0, 0, 0, 0, 0, 0, 0, 0);
            x.go("sheet(0, 8, 24)").due("check(0)", 24).due("asking(13, 5)", 5).due("dishIs(5, 1)", 6).due("craftIs(7, 0)", 8);
            x.due("hold()", 5).go("run(1)").due("count(6)", 1).due("dishIs(5, 4)", -1).due("dishIs(0, 4)", 0).due("undo()", 0);
            x.dues("dishIs(*, 4)", -1, -1, -1, -1, -1, -1).due("count(4)", 14);
        });
        t.test("Promise 43", "All that sections 1 to 5 tell (THE TAPE not) is kept: 1.", () -> {
            t.run().due("image()", 1).go("run(3)").due("image()", 1).due("image()", 1).go("run(1)").due("undo()", 3);
            Run x = t.run().due("image()", 1).go("dish(1, 2, 2)", "craft(4, 5, 21)", "rises(0, 1, 0, 24)", "table(0, 0, 5, true)", "order(0, 0)");
            x.go("run(25)", "undo()").due("count(0)", 0).due("craft(1, 0, 10)", 0).due("ever(0)", 255).due("rises(0, 1, 0, 0)", 0);
            x.dues("craftIs(0, *)", 1, 0, 1, 0, 0, 0, 0, 0, 0, 0, 0).due("table(0, 0, 0, false)", 0).due("order(0, 5)", 0);
        });
    }

    /** All DISHES, CRAFT and ASKINGS that there can be; CRAFT 0 is UP at PLACE 0. */
    private static Run full(Edges t) {
        Run x = t.run();
        for (int d = 0; d < 6; d++) {
            x.go("dish(0, " + (d + 1) + ", 0)");
        }
        for (int c = 0; c < 8; c++) {
            x.go("craft(" + (c + 1) + ", 0, 10)");
        }
        x.go("rises(0, 0, 0, 24)");
        for (int a = 0; a < 7; a++) {
            x.asks("track c0n2from0to99worth9;track c0n2from0to99worth5");
        }
        return x;
    }

    /** Nothing is kept of what was there and isn't any more: what is made anew in its place is as any new one. */
    private static void madeAnew(Edges t) {
        t.test("Promise 44", "It becomes what was kept latest (which stays): the open HOUR.", () -> {
            Run x = t.run().go("image()", "dish(1, 2, 2)", "craft(4, 0, 22)", "rises(0, 0, 3, 24)", "rises(0, 1, 3, 24)", "rises(0, 2, 3, 24)");
            Made.held(x.go("run(24)"), "both c0n9from24to33").go("order(0, 90)", "run(1)").due("name(0, 0)", 1).due("dishIs(0, 4)", 0);
            x.go("run(75)").due("craftIs(0, 8)", 1).due("craftIs(0, 9)", 4).due("craftIs(0, 7)", 1).due("orderIs(0, 0, 3)", 1);
            x.go("mend(0, true)").due("undo()", 0).due("dish(0, 1, 0)", 0).dues("dishIs(0, *)", 0, 1, 0, 0, -1).due("count(1)", 0);
            x.due("craft(1, 0, 10)", 0).dues("craftIs(0, *)", 1, 0, 1, 0, 0, 0, 0, 0, 0, 0, 0);
            x.due("rises(0, 0, 0, 0)", 0).due("rises(0, 1, 0, 0)", 0).due("rises(0, 2, 0, 0)", 0).due("order(0, 9)", 0);
            x.dues("orderIs(0, 0, *)", 0, -1, 9, 0, -1).go("run(1)").due("orderIs(0, 0, 3)", 0).due("block(0, 0, 0)", Due.NONE);
            x.asks("track c0n1from0to1").dues("asking(0, *)", 0, 0, 1, 0, 1, 1, 0, -1, -1, 1);
        });
        t.test("Promise 44", "It becomes what was kept latest (which stays): the open HOUR.", () -> {
            Run x = Made.plans(t, 0).go("image()");
            Made.held(x, "track c0n9from0to9").go("run(1)").due("dishIs(0, 4)", 0).due("undo()", 0).due("dishIs(0, 4)", -1);
            x.go("run(1)").due("count(6)", 0).asks("track c0n1from0to9").due("begins(0)", 1);
        });
    }

    private static void undo(Edges t) {
        t.test("Promise 44", "It becomes what was kept latest (which stays): the open HOUR.", () -> {
            Run x = t.run().go("run(1)", "image()", "run(1)").due("undo()", 1).due("count(9)", 1).due("undo()", 1).go("run(5)");
            x.due("undo()", 1).go("run(2)", "image()", "run(100)").due("undo()", 3).go("dish(0, 1, 0)").due("undo()", 3).due("count(0)", 0);
            Run busy = Made.busy(t).due("undo()", 20).due("undo()", 20).dues("asking(*, 6)", 3, 1, 1, 1, 1).due("count(3)", 5);
            busy.go("run(1)").due("asking(1, 6)", 2).due("undo()", 20).due("asking(1, 6)", 1).due("orderIs(0, 1, 1)", -1);
        });
        t.test("Promise 44", "(which stays)", () -> {
            Run x = Made.nextDay(t, 0, 122).go("image()");
            Made.held(x, "both c0n1from24to25").go("order(0, 24)", "run(1)").due("block(0, 0, 1)", 1).due("orderIs(0, 0, 3)", 1);
            x.due("undo()", 24).due("block(0, 0, 1)", 0).due("count(3)", 0).due("craftIs(0, 10)", 0).go("run(24)").due("undo()", 24);
            x.due("craftIs(0, 6)", 2).due("count(9)", 24);
        });
        t.test("Promise 44", "NONE: nothing is kept.", () -> {
            t.refused(() -> t.run(), Due.NONE, "undo()");
            t.refused(() -> Made.busy(t).go("tear()"), Due.NONE, "undo()");
        });
    }

    private static void tear(Edges t) {
        t.test("Promise 45", "Nothing is kept: 1 if something was, else 0.", () -> {
            t.run().due("tear()", 0).due("image()", 1).due("tear()", 1).due("tear()", 0).due("undo()", Due.NONE).due("status(-1)", 1);
            t.run().go("image()", "image()").due("tear()", 1).due("tear()", 0).due("image()", 1).due("undo()", 0);
            Made.busy(t).due("tear()", 1).due("count(9)", 25).due("count(3)", 11).due("undo()", Due.NONE).due("count(9)", 25);
        });
    }

    private static void count(Edges t) {
        t.test("Promise 46", "0 DISHES, 1 of them BROKEN, 2 CRAFT, 3 ASKINGS, 4 to 8 of them that wait, are planned, run, are done, broken,"
            + " 9 the open HOUR, 10 bytes of THE TAPE, 11 BLOCKS of all CRAFT, 12 CELLS that weren't looked into and have ODDS above 0.",
            () -> {
                t.run().dues("count(*)", 0, 0, 0, 0, 0, 0, 0, 0, 0, 0, 0, 0, 0);
                Run x = Made.busy(t).dues("count(*)", 3, 1, 3, 11, 6, 1, 2, 1, 1, 25, 7, 9, 2);
                x.go("mend(0, true)", "run(1)", "cell(6, 0)", "wipe()").dues("count(*)", 3, 2, 3, 11, 6, 1, 1, 1, 2, 26, 0, 9, 1);
                x.go("seek()").due("count(12)", 0);
            });
        t.test("Promise 46", "BEYOND: another what.", () -> {
            t.refused(Due.BEYOND, "count(-1)", "count(13)", "count(" + LEAST + ")", "count(" + MOST + ")");
            t.refused(() -> t.run(), Due.BEYOND, "count(-1)", "count(13)");
        });
    }

    private static void status(Edges t) {
        t.test("Promise 47", "How many acts answered a finding ever (this one not): which -1: all, 0 to 6: BEYOND to SIZE.", () -> {
            t.run().due("status(-1)", 0).dues("status(*)", 0, 0, 0, 0, 0, 0, 0).due("status(-1)", 0);
            Run x = Made.busy(t).due("run(0)", Due.BEYOND).due("run(101)", Due.BEYOND).due("check(3)", Due.MISSING).due("drop(0)", Due.STATE);
            x.due("as(0, 1)", Due.KIND).due("block(2, 0, 0)", Due.NONE).due("judge(2)", Due.SIZE).go("dish(0, 1, 0)", "dish(0, 1, 0)");
            x.go("dish(0, 1, 0)").due("dish(0, 1, 0)", Due.FULL).due("dish(0, 1, 0)", Due.FULL).due("drop(0)", Due.STATE);
            x.dues("status(*)", 2, 2, 1, 1, 2, 1, 1).due("status(-1)", 10).go("undo()").due("status(-1)", 10);
            t.unchanged(() -> Made.busy(t), "status(6)", 0);
        });
        t.test("Promise 47", "BEYOND (counted from then on): another one.", () -> {
            t.refused(Due.BEYOND, "status(-2)", "status(7)", "status(" + LEAST + ")", "status(" + MOST + ")");
            Run x = t.run().due("status(7)", Due.BEYOND).due("status(0)", 1).due("status(-2)", Due.BEYOND).due("status(-1)", 2);
            x.due("status(-1)", 2).due("status(0)", 2).due("status(6)", 0);
        });
    }
}
