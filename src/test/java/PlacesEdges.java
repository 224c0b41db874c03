/** Promises 1 to 11: a new object; places, dishes, craft. */
final class PlacesEdges {
    private static final int LEAST = Integer.MIN_VALUE;
    private static final int MOST = Integer.MAX_VALUE;

    private PlacesEdges() {
    }

    static void all(Edges t) {
        newObject(t);
        rain(t);
        dish(t);
        mend(t);
        dishIs(t);
        craft(t);
        craftIs(t);
        rises(t);
        up(t);
        rise(t);
        link(t);
    }

    private static void newObject(Edges t) {
        t.test("Promise 1", "No DISHES, CRAFT, ASKINGS; THE TAPE is empty, no image is kept.", () -> {
            t.run().dues("count(*)", 0, 0, 0, 0, 0, 0, 0, 0, 0, 0, 0, 0, 0).due("status(-1)", 0).due("tear()", 0);
            t.run().due("dishIs(0, 0)", Due.BEYOND).due("craftIs(0, 0)", Due.BEYOND).due("asking(0, 0)", Due.BEYOND);
            t.run().due("wipe()", 0).due("asks()", -1).due("undo()", Due.NONE).due("plan(-1)", 0).due("hold()", 0);
        });
        t.test("Promise 1", "No DISHES, CRAFT, ASKINGS", () -> {
            Run x = Made.busy(t);
            t.run().dues("count(*)", 0, 0, 0, 0, 0, 0, 0, 0, 0, 0, 0, 0, 0).due("undo()", Due.NONE).due("check(0)", Due.MISSING);
            x.due("count(9)", 25);
        });
    }

    private static void rain(Edges t) {
        t.test("Promise 2", "RAIN of a PLACE on DAYS with that rest (0 to 13): what it was.", () -> {
            Run x = t.run();
            for (int place = 0; place < 3; place++) {
                for (int rest = 0; rest < 14; rest += 13) {
                    String call = "rain(" + place + ", " + rest + ", ";
                    x.due(call + "9)", 0).due(call + "9)", 9).due(call + "0)", 9).due(call + "1)", 0);
                }
            }
            x.due("rain(1, 0, 2)", 1).due("rain(1, 12, 0)", 0).due("rain(1, 1, 0)", 0).due("rain(1, 13, 0)", 1).due("rain(2, 0, 0)", 1);
        });
        t.test("Promise 2", "BEYOND.", () -> t.refused(Due.BEYOND, "rain(-1, 0, 0)", "rain(3, 0, 0)", "rain(0, -1, 0)", "rain(0, 14, 0)",
            "rain(0, 0, -1)", "rain(0, 0, 10)", "rain(" + LEAST + ", 0, 0)", "rain(0, " + MOST + ", 0)", "rain(0, 0, " + MOST + ")"));
    }

    private static void dish(Edges t) {
        t.test("Promise 3", "A new DISH: its number.", () -> {
            Run x = t.run().due("dish(0, 1, 0)", 0).due("dish(2, 9, 3)", 1).due("dish(1, 5, 1)", 2);
            x.dues("dishIs(0, *)", 0, 1, 0, 0, -1).dues("dishIs(1, *)", 2, 9, 3, 0, -1).dues("dishIs(2, *)", 1, 5, 1, 0, -1);
            x.due("count(0)", 3).due("count(1)", 0);
        });
        t.test("Promise 3", "BEYOND: place, size, turn.", () -> {
            t.refused(Due.BEYOND, "dish(-1, 1, 0)", "dish(3, 1, 0)", "dish(0, 0, 0)", "dish(0, 10, 0)", "dish(0, 1, -1)", "dish(0, 1, 4)",
                "dish(" + LEAST + ", 1, 0)", "dish(0, " + MOST + ", 0)", "dish(0, 1, " + MOST + ")");
            t.refused(() -> sixDishes(t), Due.BEYOND, "dish(3, 1, 0)", "dish(0, 10, 0)", "dish(0, 1, 4)", "dish(-1, 0, -1)");
        });
        t.test("Promise 3", "FULL.", () -> t.refused(() -> sixDishes(t), Due.FULL, "dish(0, 1, 0)", "dish(2, 9, 3)"));
    }

    private static Run sixDishes(Edges t) {
        return Made.busy(t).go("dish(2, 1, 0)", "dish(1, 1, 0)").due("dish(0, 1, 0)", 5);
    }

    private static void mend(Edges t) {
        t.test("Promise 4", "A DISH is BROKEN, or whole again: 1 if that is new, else 0.", () -> {
            Run x = t.run().go("dish(0, 1, 0)", "dish(0, 1, 0)").due("mend(0, false)", 0).due("mend(0, true)", 1);
            x.due("mend(0, true)", 0).due("dishIs(0, 3)", 1).due("dishIs(1, 3)", 0).due("count(1)", 1).due("mend(1, true)", 1);
            x.due("mend(0, false)", 1).due("mend(0, false)", 0).due("dishIs(0, 3)", 0).due("count(1)", 1);
        });
        t.test("Promise 4", "BEYOND.", () -> {
            t.refused(Due.BEYOND, "mend(-1, true)", "mend(3, true)", "mend(3, false)", "mend(" + MOST + ", true)");
            t.refused(() -> t.run(), Due.BEYOND, "mend(0, true)", "mend(0, false)");
        });
    }

    private static void dishIs(Edges t) {
        t.test("Promise 5", "Of a DISH: what 0 PLACE, 1 SIZE, 2 TURN, 3 1 if it is BROKEN, 4 the ASKING that runs there (-1: none).", () -> {
            Run x = Made.busy(t).dues("dishIs(0, *)", 0, 9, 1, 0, 2).dues("dishIs(1, *)", 1, 5, 2, 0, 1).dues("dishIs(2, *)", 0, 3, 0, 1, -1);
            x.go("run(1)").due("dishIs(0, 4)", -1).due("dishIs(1, 4)", 1).go("run(3)").due("dishIs(1, 4)", -1);
            x.go("run(31)").due("dishIs(0, 4)", -1).go("run(1)").due("dishIs(0, 4)", 4).go("run(1)").due("dishIs(0, 4)", -1);
            Made.held(Made.plans(t, 0), "track c0n2from0to2").due("dishIs(0, 4)", -1).go("run(1)").due("dishIs(0, 4)", 0);
        });
        t.test("Promise 5", "BEYOND.", () -> {
            t.refused(Due.BEYOND, "dishIs(-1, 0)", "dishIs(3, 0)", "dishIs(0, -1)", "dishIs(0, 5)", "dishIs(0, " + LEAST + ")");
            t.refused(() -> t.run(), Due.BEYOND, "dishIs(0, 0)");
        });
    }

    private static void craft(Edges t) {
        t.test("Promise 6", "A new CRAFT; blocks: 10 * ROOM + RATE: its number.", () -> {
            Run x = t.run().due("craft(1, 0, 10)", 0).due("craft(9, 30, 126)", 1).due("craft(5, 15, 16)", 2).due("craft(5, 15, 120)", 3);
            x.dues("craftIs(0, *)", 1, 0, 1, 0, 0, 0, 0, 0, 0, 0, 0).dues("craftIs(1, *)", 9, 30, 12, 6, 0, 0, 0, 0, 0, 0, 0);
            x.due("craftIs(2, 2)", 1).due("craftIs(2, 3)", 6).due("craftIs(3, 2)", 12).due("craftIs(3, 3)", 0).due("count(2)", 4);
        });
        t.test("Promise 6", "BEYOND: loud, far, blocks.", () -> {
            t.refused(Due.BEYOND, "craft(0, 0, 10)", "craft(10, 0, 10)", "craft(1, -1, 10)", "craft(1, 31, 10)", "craft(1, 0, 9)",
                "craft(1, 0, 6)", "craft(1, 0, 0)", "craft(1, 0, -1)", "craft(1, 0, -10)", "craft(1, 0, 17)", "craft(1, 0, 19)",
                "craft(1, 0, 127)", "craft(1, 0, 130)", "craft(1, 0, " + LEAST + ")", "craft(1, 0, " + MOST + ")",
                "craft(" + LEAST + ", 0, 10)", "craft(1, " + MOST + ", 10)");
            t.refused(() -> eightCraft(t), Due.BEYOND, "craft(0, 0, 10)", "craft(1, 31, 10)", "craft(1, 0, 9)");
        });
        t.test("Promise 6", "FULL.", () -> t.refused(() -> eightCraft(t), Due.FULL, "craft(1, 0, 10)", "craft(9, 30, 126)"));
    }

    private static Run eightCraft(Edges t) {
        return Made.busy(t).go("craft(1, 0, 10)", "craft(2, 0, 10)", "craft(3, 0, 10)", "craft(4, 0, 10)").due("craft(1, 0, 10)", 7);
    }

    private static void craftIs(Edges t) {
        t.test("Promise 7", "Of a CRAFT: what 0 LOUD, 1 FAR, 2 ROOM, 3 RATE, 4 how many BLOCKS, 5 of them HELD, 6 made ever, 7 HAD,"
            + " 8 DROPPED, 9 LOST, 10 ORDERS.", () -> {
            Run x = Made.busy(t).dues("craftIs(0, *)", 8, 0, 4, 3, 3, 0, 3, 0, 0, 0, 3).dues("craftIs(1, *)", 9, 2, 12, 6, 6, 1, 6, 0, 0, 0, 2);
            x.dues("craftIs(2, *)", 1, 30, 1, 0, 0, 0, 0, 0, 0, 0, 0).due("name(0, 0)", 1);
            x.dues("craftIs(0, *)", 8, 0, 4, 3, 2, 0, 3, 1, 0, 0, 3);
            x.go("run(25)").dues("craftIs(0, *)", 8, 0, 4, 3, 4, 3, 6, 1, 1, 0, 3);
            x.go("run(24)").dues("craftIs(0, *)", 8, 0, 4, 3, 4, 4, 9, 1, 2, 2, 3);
        });
        t.test("Promise 7", "BEYOND.", () -> {
            t.refused(Due.BEYOND, "craftIs(-1, 0)", "craftIs(3, 0)", "craftIs(0, -1)", "craftIs(0, 11)", "craftIs(0, " + MOST + ")");
            t.refused(() -> t.run(), Due.BEYOND, "craftIs(0, 0)");
        });
    }

    private static void rises(Edges t) {
        t.test("Promise 8", "A CRAFT is UP at a PLACE from a CLOCK on for n HOURS: for how many it was.", () -> {
            Run x = t.run().go("craft(1, 0, 10)", "craft(1, 0, 10)").due("rises(0, 0, 0, 24)", 0).due("rises(0, 0, 23, 1)", 24);
            x.due("rises(0, 0, 23, 0)", 1).due("rises(0, 0, 0, 0)", 0).due("rises(0, 2, 23, 24)", 0).due("rises(1, 2, 0, 1)", 0);
            x.due("up(0, 0, 0)", 0).due("up(0, 2, 0)", 1).due("up(1, 2, 0)", 1).due("up(1, 2, 1)", 0).due("rises(0, 2, 0, 1)", 24);
        });
        t.test("Promise 8", "BEYOND.", () -> {
            t.refused(Due.BEYOND, "rises(-1, 0, 0, 1)", "rises(3, 0, 0, 1)", "rises(0, -1, 0, 1)", "rises(0, 3, 0, 1)",
                "rises(0, 0, -1, 1)", "rises(0, 0, 24, 1)", "rises(0, 0, 0, -1)", "rises(0, 0, 0, 25)", "rises(0, 0, " + LEAST + ", 1)");
            t.refused(() -> t.run(), Due.BEYOND, "rises(0, 0, 0, 1)");
        });
    }

    private static void up(Edges t) {
        t.test("Promise 9", "Whether a CRAFT is UP at a PLACE in an HOUR (0 to 4000): 1, 0.", () -> {
            Run x = t.run().go("craft(1, 0, 10)", "rises(0, 0, 22, 4)", "rises(0, 1, 16, 1)", "rises(0, 2, 17, 23)");
            x.due("up(0, 0, 0)", 1).due("up(0, 0, 1)", 1).due("up(0, 0, 2)", 0).due("up(0, 0, 21)", 0).due("up(0, 0, 22)", 1);
            x.due("up(0, 0, 25)", 1).due("up(0, 0, 26)", 0).due("up(0, 1, 4000)", 1).due("up(0, 1, 3999)", 0);
            x.due("up(0, 2, 4000)", 0).due("up(0, 2, 3999)", 1);
        });
        t.test("Promise 9", "BEYOND.", () -> {
            t.refused(Due.BEYOND, "up(0, 0, -1)", "up(0, 0, 4001)", "up(-1, 0, 0)", "up(3, 0, 0)", "up(0, -1, 0)", "up(0, 3, 0)",
                "up(0, 0, " + MOST + ")", "up(0, 0, " + LEAST + ")");
            t.refused(() -> t.run(), Due.BEYOND, "up(0, 0, 0)");
        });
    }

    private static void rise(Edges t) {
        t.test("Promise 10", "The first HOUR from one on (0 to 4000) from which on a CRAFT is UP at a PLACE for n HOURS (1 to 9) in a row.",
            () -> {
                Run x = t.run().go("craft(1, 0, 10)", "rises(0, 0, 22, 4)", "rises(0, 1, 7, 24)", "rises(0, 2, 7, 23)");
                x.due("rise(0, 0, 0, 1)", 0).due("rise(0, 0, 0, 2)", 0).due("rise(0, 0, 0, 3)", 22).due("rise(0, 0, 0, 4)", 22);
                x.due("rise(0, 0, 1, 2)", 22).due("rise(0, 0, 1, 1)", 1).due("rise(0, 0, 2, 1)", 22).due("rise(0, 0, 23, 4)", 46);
                x.due("rise(0, 0, 4000, 4)", 4006).due("rise(0, 1, 4000, 9)", 4000).due("rise(0, 1, 3, 9)", 3);
                x.due("rise(0, 2, 3, 3)", 3).due("rise(0, 2, 3, 4)", 7).due("rise(0, 2, 6, 1)", 7).due("rise(0, 2, 0, 9)", 7);
            });
        t.test("Promise 10", "BEYOND.", () -> {
            t.refused(Due.BEYOND, "rise(-1, 0, 0, 1)", "rise(3, 0, 0, 1)", "rise(0, -1, 0, 1)", "rise(0, 3, 0, 1)", "rise(0, 0, -1, 1)",
                "rise(0, 0, 4001, 1)", "rise(0, 0, 0, 0)", "rise(0, 0, 0, 10)", "rise(0, 0, " + MOST + ", 1)", "rise(2, 0, 0, 10)",
                "rise(2, 0, 0, 0)", "rise(0, 0, 0, " + LEAST + ")");
            t.refused(() -> t.run(), Due.BEYOND, "rise(0, 0, 0, 1)");
        });
        t.test("Promise 10", "NONE: in none up to 24 HOURS later.", () -> {
            t.refused(Due.NONE, "rise(2, 0, 0, 1)", "rise(2, 2, 0, 4)", "rise(1, 0, 0, 9)", "rise(2, 1, 4000, 9)");
            Run x = Made.busy(t).due("rise(2, 2, 0, 3)", 5).due("rise(2, 2, 6, 3)", 29).due("rise(1, 0, 0, 8)", 5);
            x.due("rise(2, 2, 5, 3)", 5).due("rise(2, 2, 7, 2)", 29);
        });
    }

    private static void link(Edges t) {
        t.test("Promise 11", "LINK of a CRAFT and a DISH in an HOUR (0 to 4000).", () -> {
            Run x = t.run().go("craft(9, 0, 10)", "craft(1, 0, 10)", "dish(1, 9, 0)", "dish(0, 1, 0)", "rain(1, 0, 9)", "rain(1, 12, 3)");
            x.due("link(0, 0, 0)", 72).due("link(0, 0, 23)", 72).due("link(0, 0, 24)", 81).due("link(0, 0, 4000)", 78);
            x.due("link(1, 0, 0)", 0).due("link(1, 0, 24)", 9).due("link(1, 1, 0)", 1).due("link(0, 0, 3983)", 81);
            x.due("link(0, 0, 3984)", 78).due("link(0, 0, " + 24 * 14 + ")", 72);
        });
        t.test("Promise 11", "BEYOND.", () -> {
            t.refused(Due.BEYOND, "link(-1, 0, 0)", "link(3, 0, 0)", "link(0, -1, 0)", "link(0, 3, 0)", "link(0, 0, -1)", "link(0, 0, 4001)",
                "link(0, 0, " + LEAST + ")", "link(0, 2, 4001)");
            t.refused(() -> t.run().go("craft(1, 0, 10)"), Due.BEYOND, "link(0, 0, 0)");
            t.refused(() -> t.run().go("dish(0, 1, 0)"), Due.BEYOND, "link(0, 0, 0)");
        });
    }
}
