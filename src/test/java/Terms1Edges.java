/** How often an object is used, and the terms up to section 1: findings, hours, places, dishes, craft. */
final class Terms1Edges {
    private Terms1Edges() {
    }

    static void all(Edges t) {
        use(t);
        findings(t);
        order(t);
        nothingButStatus(t);
        setsAndQuotients(t);
        hours(t);
        rain(t);
        dishes(t);
        craft(t);
        up(t);
        link(t);
    }

    private static void use(Edges t) {
        t.test("Use", "An object is used for at most 512 calls after it has been made", () -> {
            Run x = t.run();
            for (int i = 0; i < 510; i++) {
                x.due("rain(0, 0, " + (i + 1) % 10 + ")", i % 10);
            }
            x.due("count(13)", Due.BEYOND).due("status(-1)", 1);
            t.due("calls", x.calls(), 512);
        });
        t.test("Use", "An object is used for at most 512 calls after it has been made", () -> {
            Run x = Made.busy(t);
            while (x.calls() < 511) {
                x.due("plan(-1)", 9);
            }
            x.due("run(100)", 125);
        });
    }

    private static void findings(Edges t) {
        t.test("Terms 0", "FINDINGS are answers below -1000000: -1000001 BEYOND, -1000002 FULL, -1000003 KIND, -1000004 NONE,"
            + " -1000005 STATE, -1000006 MISSING, -1000007 SIZE.", () -> {
            Made.busy(t).due("count(13)", -1000001);
            Run full = t.run();
            for (int i = 0; i < 20; i++) {
                full.go("run(100)");
            }
            full.due("run(1)", -1000002);
            Made.busy(t).due("as(0, 1)", -1000003).due("block(2, 0, 0)", -1000004).due("drop(0)", -1000005);
            Made.busy(t).due("check(3)", -1000006).due("judge(2)", -1000007);
        });
        t.test("Terms 0", "FINDINGS are answers below -1000000", () -> {
            Run x = t.run().go("craft(1, 0, 10)");
            x.asks(" ".repeat(110), -111).due("status(-1)", 0);
            x.go("dish(0, 1, 0)").asks("track c0n1from0to1").due("plan(0)", -1).due("dishIs(0, 4)", -1).due("status(-1)", 0);
        });
    }

    /** Calls in which two findings could be told at once: the one that is asked first is. */
    private static void order(Edges t) {
        t.test("Terms 0", "Each act tells its findings in the order in which they are asked", () -> {
            Run full = Made.busy(t).go("dish(0, 1, 0)", "dish(0, 1, 0)", "dish(0, 1, 0)");
            full.due("dish(0, 1, 0)", Due.FULL).due("dish(0, 0, 0)", Due.BEYOND);
            Run x = Made.busy(t);
            x.due("rise(2, 0, 0, 1)", Due.NONE).due("rise(2, 0, 0, 10)", Due.BEYOND);
            x.due("as(0, 1)", Due.KIND).due("as(0, 7)", Due.BEYOND);
            x.due("worth(0, 0)", Due.STATE).due("worth(0, 1000)", Due.BEYOND);
            x.due("takes(0, 0)", Due.STATE).due("takes(0, 1000)", Due.BEYOND);
            x.due("bars(0, 5)", Due.STATE).due("bars(0, 0)", Due.BEYOND).due("bars(0, 11)", Due.BEYOND);
            x.due("judge(3)", Due.MISSING).due("judge(4)", Due.BEYOND);
            x.go("write(2, 0, 9)").due("judge(2)", Due.SIZE);
            x.due("block(2, 0, 0)", Due.NONE).due("block(2, 0, 3)", Due.BEYOND);
            x.due("silence(2, 0)", Due.NONE).due("silence(2, 8)", Due.BEYOND);
            x.due("write(3, 24, 0)", Due.MISSING).due("write(4, 24, 0)", Due.BEYOND);
            x.due("sheet(0, 9, -1)", Due.BEYOND).due("sheet(0, 8, -1)", Due.SIZE);
            x.due("copy(0, 9, 1, 9, 9)", Due.KIND).due("copy(0, 9, 3, 9, 9)", Due.MISSING).due("copy(3, 9, 4, 9, 9)", Due.BEYOND);
            Run none = t.run();
            none.due("stop(1)", Due.NONE).due("stop(0)", Due.BEYOND);
        });
    }

    private static void nothingButStatus(Edges t) {
        t.test("Terms 0", "one that answers a finding changes nothing but status()", () -> {
            t.refused(Due.BEYOND, "rain(0, 0, 10)", "dish(0, 10, 1)", "mend(3, true)", "dishIs(0, 5)", "craft(1, 31, 11)",
                "craftIs(0, 11)", "rises(0, 0, 24, 1)", "up(0, 0, 4001)", "rise(0, 0, 0, 10)", "link(0, 3, 0)", "feed(0, 5)",
                "asking(11, 0)", "as(0, 7)", "worth(5, 1000)", "plan(11)", "begins(11)", "without(11)", "takes(5, 1000)",
                "bars(5, 5)", "judge(4)", "drop(11)", "run(101)", "block(0, 0, 3)", "name(0, -1)", "over(0, 10)",
                "order(0, 24)", "again(0, 3)", "orderIs(0, 0, 5)", "table(0, 0, 8, true)", "silence(0, 8)", "ever(3)",
                "cell(0, 100)", "stop(101)", "check(4)", "sheet(0, 8, 25)", "write(0, 5, 1)", "copy(0, 0, 2, 0, 4)",
                "count(13)", "status(7)");
            t.refused(Due.KIND, "as(0, 1)", "copy(0, 0, 1, 0, 1)");
            t.refused(Due.NONE, "rise(2, 0, 0, 1)", "begins(0)", "block(0, 3, 0)", "silence(0, 3)");
            t.refused(Due.STATE, "worth(4, 1)", "without(4)", "takes(4, 1)", "bars(4, 5)", "drop(5)", "again(0, 0)");
            t.refused(Due.MISSING, "judge(3)", "check(3)", "write(3, 0, 1)", "copy(3, 0, 0, 0, 1)");
            t.refused(Due.SIZE, "judge(2)", "sheet(0, 8, -1)");
        });
    }

    private static void setsAndQuotients(Edges t) {
        t.test("Terms 0", "Sets are told by bits.", () -> {
            Run x = t.run().go("craft(1, 0, 10)").due("ever(0)", 255);
            x.go("table(0, 0, 0, true)").due("ever(0)", 254);
            x.go("table(0, 7, 7, true)").due("ever(0)", 126);
            Run y = Made.plans(t, 0).asks("track c0n1from0to1worth1;track c0n1from0to1worth2");
            y.due("takes(0, 3)", 2).due("takes(0, 0)", 0);
        });
        t.test("Terms 0", "Quotients are cut.", () -> {
            Run x = t.run().go("craft(1, 0, 10)");
            x.asks("both c0n1from0to1worth1;both c0n1from0to1worth3;both c0n1from0to1worth999").dues("asking(*, 9)", 1, 4, 1498);
            sentByLink(t, 1, 7, 0);
            sentByLink(t, 1, 8, 1);
            sentByLink(t, 3, 5, 1);
            sentByLink(t, 2, 8, 2);
        });
    }

    /** How many of six BLOCKS are SENT in an HOUR with a LINK of loud times size. */
    private static void sentByLink(Edges t, int loud, int size, int sent) {
        Run x = t.run().go("dish(0, " + size + ", 0)", "craft(" + loud + ", 0, 126)", "rises(0, 0, 0, 24)", "run(24)");
        Made.held(x, "hear c0n1from24to25").go("run(1)").due("craftIs(0, 5)", 6 - sent);
    }

    private static void hours(Edges t) {
        t.test("Terms 1", "HOURS: the open one is 0 at first, 2000 at most", () -> {
            Run x = t.run().due("count(9)", 0);
            for (int i = 1; i <= 20; i++) {
                x.due("run(100)", 100 * i);
            }
            x.due("count(9)", 2000).due("run(1)", Due.FULL).due("count(9)", 2000);
        });
        t.test("Terms 1", "the CLOCK of an HOUR is it modulo 24", () -> {
            Run x = t.run().go("craft(1, 0, 121)", "rises(0, 0, 23, 1)", "rises(0, 1, 0, 1)");
            x.due("up(0, 0, 23)", 1).due("up(0, 0, 24)", 0).due("up(0, 0, 47)", 1).due("up(0, 0, 22)", 0);
            x.due("up(0, 1, 0)", 1).due("up(0, 1, 23)", 0).due("up(0, 1, 24)", 1).due("up(0, 1, 48)", 1).due("up(0, 1, 49)", 0);
            x.go("rises(0, 2, 8, 1)").due("up(0, 2, 2000)", 1).due("up(0, 2, 1999)", 0).due("up(0, 2, 2001)", 0);
        });
        t.test("Terms 1", "its DAY it by 24", () -> {
            Run x = t.run().go("craft(9, 0, 10)", "dish(0, 9, 0)", "rain(0, 0, 1)", "rain(0, 1, 2)", "rain(0, 2, 3)");
            x.due("link(0, 0, 0)", 80).due("link(0, 0, 23)", 80).due("link(0, 0, 24)", 79).due("link(0, 0, 47)", 79);
            x.due("link(0, 0, 48)", 78);
        });
    }

    private static void rain(Edges t) {
        t.test("Terms 1", "PLACES 0, 1, 2: each has RAIN of DAYS modulo 14", () -> {
            Run x = t.run().go("craft(9, 0, 10)", "dish(0, 9, 0)", "rain(0, 0, 5)", "rain(0, 13, 9)");
            x.due("link(0, 0, " + 24 * 13 + ")", 72).due("link(0, 0, " + (24 * 14 - 1) + ")", 72);
            x.due("link(0, 0, " + 24 * 14 + ")", 76).due("link(0, 0, " + 24 * 15 + ")", 81);
            x.due("link(0, 0, " + (24 * 28 - 1) + ")", 72).due("link(0, 0, " + 24 * 28 + ")", 76);
        });
        t.test("Terms 1", "(0 to 9; 0 at first)", () -> {
            Run x = t.run();
            for (int p = 0; p < 3; p++) {
                for (int rest = 0; rest < 14; rest++) {
                    x.due("rain(" + p + ", " + rest + ", 9)", 0);
                }
            }
            x.due("rain(2, 13, 0)", 9).due("rain(2, 13, 10)", Due.BEYOND).due("rain(2, 13, -1)", Due.BEYOND);
            x.due("rain(2, 13, 0)", 0).due("rain(0, 0, 0)", 9);
        });
    }

    private static void dishes(Edges t) {
        t.test("Terms 1", "DISHES 0, 1, .. (at most 6)", () -> {
            Run x = t.run();
            for (int d = 0; d < 6; d++) {
                x.due("mend(" + d + ", true)", Due.BEYOND).due("dish(0, 1, 0)", d).due("count(0)", d + 1);
            }
            x.due("dish(0, 1, 0)", Due.FULL).due("mend(5, true)", 1).due("mend(6, true)", Due.BEYOND).due("count(0)", 6);
        });
        t.test("Terms 1", "are of a PLACE, have a SIZE (1 to 9)", () -> {
            Run x = t.run().due("dish(0, 1, 0)", 0).due("dish(2, 9, 0)", 1);
            x.due("dish(0, 0, 0)", Due.BEYOND).due("dish(0, 10, 0)", Due.BEYOND);
            x.due("dish(-1, 1, 0)", Due.BEYOND).due("dish(3, 1, 0)", Due.BEYOND).due("count(0)", 2);
            x.dues("dishIs(0, *)", 0, 1, 0, 0, -1).dues("dishIs(1, *)", 2, 9, 0, 0, -1);
        });
        t.test("Terms 1", "take TURN HOURS (0 to 3) from one TRACK to the next one, and may be BROKEN.", () -> {
            for (int turn = 0; turn <= 3; turn++) {
                Run x = Made.plans(t, turn).asks("track c0n2from0to9;track c0n1from0to9");
                x.due("begins(0)", 0).due("begins(1)", 2 + turn).due("dishIs(0, 2)", turn);
                x.go("mend(0, true)").due("plan(-1)", 0).due("dishIs(0, 3)", 1);
            }
            t.run().due("dish(0, 1, -1)", Due.BEYOND).due("dish(0, 1, 4)", Due.BEYOND).due("count(0)", 0);
        });
    }

    private static void craft(Edges t) {
        t.test("Terms 1", "CRAFT 0, 1, .. (at most 8)", () -> {
            Run x = t.run();
            for (int c = 0; c < 8; c++) {
                x.due("ever(" + c + ")", Due.BEYOND).due("craft(1, 0, 10)", c).due("count(2)", c + 1);
            }
            x.due("craft(1, 0, 10)", Due.FULL).due("ever(7)", 255).due("ever(8)", Due.BEYOND).due("count(2)", 8);
        });
        t.test("Terms 1", "are LOUD (1 to 9)", () -> {
            Run x = t.run().due("craft(1, 0, 10)", 0).due("craft(9, 0, 10)", 1);
            x.due("craft(0, 0, 10)", Due.BEYOND).due("craft(10, 0, 10)", Due.BEYOND).due("count(2)", 2);
            x.due("craftIs(0, 0)", 1).due("craftIs(1, 0)", 9);
        });
        t.test("Terms 1", "FAR so many HOURS (0 to 30: what is sent is there so much later)", () -> {
            Run x = t.run().due("craft(1, 0, 10)", 0).due("craft(1, 30, 10)", 1);
            x.due("craft(1, -1, 10)", Due.BEYOND).due("craft(1, 31, 10)", Due.BEYOND).due("count(2)", 2);
            x.due("craftIs(0, 1)", 0).due("craftIs(1, 1)", 30);
            x.go("dish(0, 1, 0)", "dish(0, 1, 0)", "rises(0, 0, 0, 24)", "rises(1, 0, 0, 24)");
            Made.held(x, "send c0n1from0to1;send c1n1from0to1").go("order(0, 99)", "order(1, 99)", "run(1)");
            x.due("orderIs(0, 0, 4)", 0).go("run(29)").due("orderIs(1, 0, 4)", -1).go("run(1)").due("orderIs(1, 0, 4)", 30);
        });
        t.test("Terms 1", "have ROOM for BLOCKS (1 to 12)", () -> {
            Run x = t.run().due("craft(1, 0, 16)", 0).due("craft(1, 0, 126)", 1);
            x.due("craft(1, 0, 6)", Due.BEYOND).due("craft(1, 0, 130)", Due.BEYOND).due("count(2)", 2);
            x.due("craftIs(0, 2)", 1).due("craftIs(1, 2)", 12).go("run(72)").due("craftIs(0, 4)", 1).due("craftIs(1, 4)", 12);
        });
        t.test("Terms 1", "and make RATE BLOCKS (0 to 6) a DAY.", () -> {
            Run x = t.run().due("craft(1, 0, 120)", 0).due("craft(1, 0, 126)", 1);
            x.due("craft(1, 0, 127)", Due.BEYOND).due("craft(1, 0, 119)", Due.BEYOND).due("count(2)", 2);
            x.due("craftIs(0, 3)", 0).due("craftIs(1, 3)", 6).go("run(24)").due("craftIs(0, 6)", 0).due("craftIs(1, 6)", 6);
            x.go("run(24)").due("craftIs(0, 6)", 0).due("craftIs(1, 6)", 12);
        });
    }

    private static void up(Edges t) {
        t.test("Terms 1", "At each PLACE one is UP from a CLOCK on for so many HOURS (0 to 24; 0 at first)", () -> {
            Run x = t.run().go("craft(1, 0, 10)");
            for (int p = 0; p < 3; p++) {
                for (int h = 0; h < 24; h++) {
                    x.due("up(0, " + p + ", " + h + ")", 0);
                }
                x.due("rises(0, " + p + ", 23, 24)", 0);
                for (int h = 0; h < 48; h++) {
                    x.due("up(0, " + p + ", " + h + ")", 1);
                }
            }
            x.due("rises(0, 0, 0, 25)", Due.BEYOND).due("rises(0, 0, 0, -1)", Due.BEYOND).due("rises(0, 0, 0, 0)", 24);
        });
        t.test("Terms 1", "over midnight, too.", () -> {
            Run x = t.run().go("craft(1, 0, 10)", "rises(0, 0, 23, 2)", "rises(0, 1, 23, 23)");
            x.due("up(0, 0, 22)", 0).due("up(0, 0, 23)", 1).due("up(0, 0, 24)", 1).due("up(0, 0, 25)", 0).due("up(0, 0, 0)", 1);
            x.due("up(0, 1, 21)", 1).due("up(0, 1, 22)", 0).due("up(0, 1, 23)", 1).due("up(0, 1, 0)", 1);
        });
    }

    private static void link(Edges t) {
        t.test("Terms 1", "LINK of a CRAFT and a DISH in an HOUR: LOUD times SIZE, less RAIN there on its DAY", () -> {
            Run x = t.run().go("craft(1, 0, 10)", "craft(9, 0, 10)", "dish(1, 1, 0)", "dish(1, 9, 0)", "dish(2, 9, 0)");
            x.due("link(0, 0, 0)", 1).due("link(1, 0, 0)", 9).due("link(0, 1, 0)", 9).due("link(1, 1, 0)", 81);
            x.go("rain(1, 0, 8)").due("link(1, 1, 0)", 73).due("link(1, 1, 24)", 81).due("link(1, 2, 0)", 81);
        });
        t.test("Terms 1", "not below 0 (of a BROKEN DISH 0).", () -> {
            Run x = t.run().go("craft(2, 0, 10)", "dish(0, 4, 0)");
            x.go("rain(0, 0, 7)").due("link(0, 0, 0)", 1).go("rain(0, 0, 8)").due("link(0, 0, 0)", 0);
            x.go("rain(0, 0, 9)").due("link(0, 0, 0)", 0).due("link(0, 0, 24)", 8);
            x.go("mend(0, true)").due("link(0, 0, 24)", 0).due("link(0, 0, 0)", 0).go("mend(0, false)").due("link(0, 0, 24)", 8);
        });
    }
}
