/** Promises 39 to 42: records, sheets. */
final class SheetsEdges {
    private static final int LEAST = Integer.MIN_VALUE;
    private static final int MOST = Integer.MAX_VALUE;

    private SheetsEdges() {
    }

    static void all(Edges t) {
        check(t);
        sheet(t);
        write(t);
        copy(t);
        copyFindings(t);
    }

    /** A BLOCK is SENT in each of the HOURS 25 to 27, and one again in 28; HOUR 24 is open. */
    private static Run recorded(Edges t) {
        Run x = Made.held(Made.nextDay(t, 1, 123), "hear c0n4from25to29");
        return x.go("sheet(0, 8, 6)", "write(0, 1, 1)", "write(0, 2, 1)", "write(0, 3, 1)", "write(0, 4, 1)");
    }

    private static void check(Edges t) {
        t.test("Promise 39", "Numbers of a sheet tell, from the open HOUR on, how many BLOCKS are SENT (again, too) by all CRAFT in each"
            + " HOUR: the place of the first that isn't as it would be; how many it has if all are (nothing changes).", () -> {
            recorded(t).due("check(0)", 6).go("write(0, 5, 1)").due("check(0)", 5).go("write(0, 0, -1)").due("check(0)", 0);
            recorded(t).go("write(0, 4, 0)").due("check(0)", 4).go("run(1)").due("check(0)", 0);
            t.run().go("sheet(0, 8, 0)", "sheet(1, 32, 24)").due("check(0)", 0).due("check(1)", 24);
            recorded(t).go("sheet(3, 32, 0)").due("check(3)", 0).go("mend(0, true)").due("check(0)", 1);
            t.unchanged(() -> recorded(t), "check(0)", 6);
            t.unchanged(() -> Made.busy(t), "check(1)", 0);
            Run two = t.run().go("dish(0, 2, 0)", "dish(0, 4, 0)", "craft(4, 1, 126)", "craft(4, 1, 126)", "rises(0, 0, 0, 24)");
            two.go("rises(1, 0, 0, 24)", "run(24)", "sheet(0, 16, 2)", "write(0, 0, 3)");
            Made.held(two, "hear c0n1from24to25;both c1n1from24to25").due("check(0)", 2);
        });
        t.test("Promise 39", "how many BLOCKS are SENT (again, too) by all CRAFT in each HOUR", () -> {
            checked(Made.held(Made.nextDay(t, 2, 121), "hear c0n6from24to30"), 1, 0, 0, 0, 1, 0, 0);
            checked(Made.held(Made.oneBlockAnHour(t, 1, 22).go("run(22)"), "hear c0n7from22to29"), 0, 0, 1, 1, 1, 1, 1, 0);
            checked(Made.held(Made.nextDay(t, 0, 123), "track c0n1from24to25;send c0n1from25to26;far c0n1from26to27"), 0, 0, 1, 0);
            Run far = t.run().go("dish(2, 4, 0)", "craft(1, 0, 121)", "craft(4, 0, 126)", "rises(1, 2, 0, 24)", "rain(2, 1, 1)");
            checked(Made.held(far.go("rain(0, 1, 9)", "run(24)"), "hear c1n1from24to25;hear c1n1from48to49"), 1, 0, 0);
            checked(far.go("run(22)"), 0, 0, 2, 0);
            Run two = t.run().go("dish(0, 9, 0)", "dish(0, 9, 0)", "craft(9, 0, 125)", "rises(0, 0, 0, 24)", "run(24)");
            checked(Made.held(two, "hear c0n1from24to25;hear c0n2from24to26"), 10, 5, 0);
        });
        t.test("Promise 39", "from the open HOUR on", () -> {
            Run x = t.run().go("dish(0, 2, 0)", "craft(4, 0, 121)", "rises(0, 0, 0, 24)");
            for (int i = 0; i < 19; i++) {
                x.go("run(100)");
            }
            x.go("run(98)", "sheet(0, 8, 24)");
            Made.held(x, "hear c0n9from1998to2007");
            for (int i = 0; i < 9; i++) {
                x.due("check(0)", i).go("write(0, " + i + ", 1)");
            }
            x.due("check(0)", 24).due("count(9)", 1998);
        });
        t.test("Promise 39", "BEYOND: no such sheet.", () -> t.refused(Due.BEYOND, "check(-1)", "check(4)", "check(" + MOST + ")"));
        t.test("Promise 39", "MISSING.", () -> {
            t.refused(Due.MISSING, "check(3)");
            t.refused(() -> t.run(), Due.MISSING, "check(0)", "check(1)", "check(2)", "check(3)");
            recorded(t).go("sheet(0, 0, 0)").due("check(0)", Due.MISSING);
        });
    }

    /** A sheet of these numbers is as it would be, and one that has another one in any place isn't. */
    private static void checked(Run x, int... sent) {
        x.go("sheet(0, 8, " + sent.length + ")");
        for (int i = 0; i < sent.length; i++) {
            x.go("write(0, " + i + ", " + (sent[i] + 1) + ")").due("check(0)", i).go("write(0, " + i + ", " + sent[i] + ")");
        }
        x.due("check(0)", sent.length);
    }

    private static void sheet(Edges t) {
        t.test("Promise 40", "A sheet has n numbers, all 0, of 8, 16 or 32 bits; bits 0: it is MISSING: n (0).", () -> {
            Run x = t.run().due("sheet(0, 8, 24)", 24).due("sheet(3, 32, 1)", 1).due("sheet(1, 16, 0)", 0).due("check(0)", 24);
            x.due("check(1)", 0).go("write(0, 3, 1)").due("check(0)", 3).due("sheet(0, 8, 24)", 24).due("check(0)", 24);
            x.go("write(0, 3, 1)").due("sheet(0, 0, 0)", 0).due("check(0)", Due.MISSING).due("sheet(0, 8, 4)", 4).due("check(0)", 4);
            x.due("sheet(3, 0, 24)", 0).due("check(3)", Due.MISSING).due("sheet(2, 0, 0)", 0).due("check(2)", Due.MISSING);
            for (int i = 0; i < 24; i++) {
                x.go("sheet(1, 16, 24)", "write(1, " + i + ", 1)").due("check(1)", i).go("sheet(1, 8, 24)").due("check(1)", 24);
            }
        });
        t.test("Promise 40", "BEYOND: no such sheet, bits.", () -> t.refused(Due.BEYOND, "sheet(-1, 8, 1)", "sheet(4, 8, 1)", "sheet(0, 7, 1)",
            "sheet(0, 9, 1)", "sheet(0, 1, 1)", "sheet(0, -8, 1)", "sheet(0, 24, 1)", "sheet(0, 64, 1)", "sheet(4, 8, -1)", "sheet(0, 7, -1)",
            "sheet(" + LEAST + ", 8, 1)", "sheet(0, " + MOST + ", 1)"));
        t.test("Promise 40", "SIZE: n is below 0.", () ->
            t.refused(Due.SIZE, "sheet(0, 8, -1)", "sheet(0, 16, -1)", "sheet(3, 32, -1)", "sheet(0, 8, " + LEAST + ")"));
        t.test("Promise 40", "BEYOND: n is above 24.", () -> {
            t.refused(Due.BEYOND, "sheet(0, 8, 25)", "sheet(0, 16, 25)", "sheet(3, 32, 25)", "sheet(0, 8, " + MOST + ")");
            Made.busy(t).due("sheet(3, 32, 24)", 24);
        });
        t.test("Promise 40", "(Also with bits 0.)", () -> {
            t.refused(Due.SIZE, "sheet(0, 0, -1)", "sheet(3, 0, " + LEAST + ")");
            t.refused(Due.BEYOND, "sheet(0, 0, 25)", "sheet(3, 0, " + MOST + ")", "sheet(4, 0, 0)", "sheet(-1, 0, -1)");
        });
    }

    private static void write(Edges t) {
        t.test("Promise 41", "Number i of a sheet becomes v (its lowest bits): 1.", () -> {
            Run x = t.run().go("sheet(0, 8, 24)", "sheet(1, 16, 1)", "sheet(2, 32, 1)").due("write(0, 0, 1)", 1).due("check(0)", 0);
            x.due("write(0, 0, 0)", 1).due("write(0, 23, 1)", 1).due("check(0)", 23).due("write(0, 23, 256)", 1).due("check(0)", 24);
            x.due("write(0, 5, " + LEAST + ")", 1).due("check(0)", 24).due("write(0, 5, 128)", 1).due("check(0)", 5);
            x.due("write(1, 0, 65536)", 1).due("check(1)", 1).due("write(1, 0, 256)", 1).due("check(1)", 0);
            x.due("write(1, 0, 32768)", 1).due("check(1)", 0);
            x.due("write(2, 0, 65536)", 1).due("check(2)", 0).due("write(2, 0, " + LEAST + ")", 1).due("check(2)", 0);
        });
        t.test("Promise 41", "(its lowest bits)", () -> {
            int[] none = {255, 65535, -1};
            for (int i = 0; i < 3; i++) {
                Run x = Made.plans(t, 0).asks("track c0n1from0to1").go("sheet(0, " + (8 << i) + ", 1)").due("judge(0)", 1);
                x.go("write(0, 0, " + none[i] + ")").due("judge(0)", 0).go("write(0, 0, " + none[i] / 2 + ")");
                x.due("judge(0)", i == 2 ? 1 : Due.BEYOND);
            }
        });
        t.test("Promise 41", "BEYOND: no such sheet.", () ->
            t.refused(Due.BEYOND, "write(-1, 0, 1)", "write(4, 0, 1)", "write(4, 99, 1)", "write(" + LEAST + ", 0, 1)"));
        t.test("Promise 41", "MISSING.", () -> {
            t.refused(Due.MISSING, "write(3, 0, 1)", "write(3, -1, 1)", "write(3, 24, 1)");
            t.refused(() -> t.run(), Due.MISSING, "write(0, 0, 1)");
        });
        t.test("Promise 41", "BEYOND: no such number.", () -> {
            t.refused(Due.BEYOND, "write(0, -1, 1)", "write(0, 5, 1)", "write(1, 24, 1)", "write(2, 3, 1)", "write(0, " + MOST + ", 1)");
            t.refused(() -> t.run().go("sheet(0, 8, 0)"), Due.BEYOND, "write(0, 0, 1)");
        });
    }

    /** SHEET 0 of 8 bits has 1 in one of its five places; SHEET 1, of 8 bits, has three numbers; 2 has 16 bits. */
    private static Run marked(Edges t, int place) {
        return t.run().go("sheet(0, 8, 5)", "sheet(1, 8, 3)", "sheet(2, 16, 5)", "write(0, " + place + ", 1)");
    }

    private static void copy(Edges t) {
        t.test("Promise 42", "n numbers of a sheet from one on come to another one from one on (as they all were): n.", () -> {
            marked(t, 4).due("copy(0, 2, 1, 0, 3)", 3).due("check(1)", 2).due("check(0)", 4);
            marked(t, 0).due("copy(0, 0, 1, 2, 1)", 1).due("check(1)", 2).due("copy(1, 0, 0, 0, 1)", 1).due("check(0)", 5);
            marked(t, 0).due("copy(0, 0, 1, 0, 0)", 0).due("check(1)", 3).due("copy(0, 5, 1, 3, 0)", 0).due("copy(0, 5, 0, 5, 0)", 0);
            marked(t, 0).due("copy(0, 0, 0, 0, 5)", 5).due("check(0)", 0);
        });
        t.test("Promise 42", "(as they all were)", () -> {
            Run up = marked(t, 0).due("copy(0, 0, 0, 1, 4)", 4).go("write(0, 0, 0)").due("check(0)", 1);
            up.go("write(0, 1, 0)").due("check(0)", 5);
            Run down = marked(t, 4).due("copy(0, 1, 0, 0, 4)", 4).due("check(0)", 3).go("write(0, 3, 0)").due("check(0)", 4);
            down.go("write(0, 4, 0)").due("check(0)", 5);
        });
    }

    private static void copyFindings(Edges t) {
        t.test("Promise 42", "BEYOND: no such sheet (either).", () -> t.refused(Due.BEYOND, "copy(-1, 0, 0, 0, 1)", "copy(4, 0, 0, 0, 1)",
            "copy(0, 0, -1, 0, 1)", "copy(0, 0, 4, 0, 1)", "copy(3, 0, 4, 0, 1)", "copy(4, 0, 3, 0, 1)", "copy(0, 0, " + MOST + ", 0, 1)"));
        t.test("Promise 42", "MISSING: one is.", () -> {
            t.refused(Due.MISSING, "copy(3, 0, 0, 0, 1)", "copy(0, 0, 3, 0, 1)", "copy(3, 0, 3, 0, 0)", "copy(0, -1, 3, 0, 1)", "copy(3, 0, 1, 99, 1)");
            t.refused(() -> t.run(), Due.MISSING, "copy(0, 0, 1, 0, 0)");
        });
        t.test("Promise 42", "KIND: they are not of as many bits.", () -> {
            t.refused(Due.KIND, "copy(0, 0, 1, 0, 1)", "copy(1, 0, 0, 0, 1)", "copy(1, 0, 2, 0, 0)", "copy(1, -1, 2, 0, 1)", "copy(0, 0, 1, 0, 99)");
            t.run().go("sheet(0, 16, 1)", "sheet(1, 32, 1)").due("copy(0, 0, 1, 0, 1)", Due.KIND).due("copy(1, 0, 0, 0, 1)", Due.KIND);
        });
        t.test("Promise 42", "BEYOND: one has not so many, or from, to or n is below 0.", () -> {
            t.refused(Due.BEYOND, "copy(0, 0, 2, 0, 4)", "copy(2, 0, 0, 0, 4)", "copy(2, 1, 0, 0, 3)", "copy(0, 0, 2, 1, 3)", "copy(0, 5, 2, 0, 1)",
                "copy(0, 0, 2, 3, 1)", "copy(0, 6, 2, 0, 0)", "copy(0, 0, 2, 4, 0)", "copy(0, -1, 2, 0, 1)", "copy(0, 0, 2, -1, 1)",
                "copy(0, 0, 2, 0, -1)", "copy(0, 1, 2, 1, -1)", "copy(0, 0, 0, 1, 5)");
            t.refused(Due.BEYOND, "copy(0, " + MOST + ", 2, 0, 1)", "copy(0, 1, 2, 0, " + MOST + ")", "copy(0, " + MOST + ", 2, " + MOST + ", " + MOST
                + ")", "copy(0, 1, 2, 0, " + LEAST + ")", "copy(0, " + LEAST + ", 2, 0, " + LEAST + ")", "copy(0, 0, 2, " + LEAST + ", 1)");
            Made.busy(t).due("copy(0, 2, 2, 0, 3)", 3).due("copy(0, 4, 2, 2, 1)", 1);
        });
    }
}
