/** Promises 33 to 38: silence, search. */
final class SilenceEdges {
    private static final int LEAST = Integer.MIN_VALUE;
    private static final int MOST = Integer.MAX_VALUE;

    private SilenceEdges() {
    }

    static void all(Edges t) {
        table(t);
        silence(t);
        ever(t);
        cell(t);
        seek(t);
        stop(t);
    }

    /** STATE 0 goes to 1, .. 6 to 7, and 7 to 0 again; none is HEARD. */
    private static Run ring(Edges t) {
        Run x = t.run().go("craft(1, 0, 10)");
        for (int s = 0; s < 8; s++) {
            x.go("table(0, " + s + ", " + (s + 1) % 8 + ", false)");
        }
        return x;
    }

    private static void table(Edges t) {
        t.test("Promise 33", "STATE s of a CRAFT's TABLE goes to another one; heard: whether it is HEARD: to which it went.", () -> {
            Run x = t.run().go("craft(1, 0, 10)", "craft(1, 0, 10)").due("table(0, 0, 7, false)", 0).due("table(0, 0, 0, true)", 7);
            x.due("table(0, 7, 0, true)", 7).due("table(0, 7, 7, false)", 0).due("table(1, 7, 1, false)", 7).due("ever(0)", 254);
            x.due("table(0, 0, 0, false)", 0).due("ever(0)", 255).due("table(0, 0, 0, true)", 0).due("table(0, 0, 1, true)", 0);
            x.due("silence(0, 0)", 0);
        });
        t.test("Promise 33", "BEYOND.", () -> {
            t.refused(Due.BEYOND, "table(-1, 0, 0, true)", "table(3, 0, 0, true)", "table(0, -1, 0, true)", "table(0, 8, 0, true)",
                "table(0, 0, -1, true)", "table(0, 0, 8, false)", "table(0, " + LEAST + ", 0, true)", "table(0, 0, " + MOST + ", true)");
            t.refused(() -> t.run(), Due.BEYOND, "table(0, 0, 0, true)");
        });
    }

    private static void silence(Edges t) {
        t.test("Promise 34", "How many DAYS of silence from STATE s until a HEARD one (0: it is).", () -> {
            ring(t).go("table(0, 7, 0, true)").dues("silence(0, *)", 7, 6, 5, 4, 3, 2, 1, 0);
            ring(t).go("table(0, 0, 1, true)").dues("silence(0, *)", 0, 7, 6, 5, 4, 3, 2, 1);
            ring(t).go("table(0, 3, 3, true)", "table(0, 5, 5, true)").dues("silence(0, *)", 3, 2, 1, 0, 1, 0, 5, 4);
            t.unchanged(() -> Made.busy(t), "silence(0, 0)", 2);
        });
        t.test("Promise 34", "BEYOND.", () -> {
            t.refused(Due.BEYOND, "silence(-1, 0)", "silence(3, 0)", "silence(0, -1)", "silence(0, 8)", "silence(2, 8)", "silence(0, " + MOST + ")");
            t.refused(() -> t.run(), Due.BEYOND, "silence(0, 0)");
        });
        t.test("Promise 34", "NONE: never.", () -> {
            t.refused(Due.NONE, "silence(0, 3)", "silence(0, 7)", "silence(1, 7)", "silence(2, 0)");
            for (int s = 0; s < 8; s++) {
                ring(t).due("silence(0, " + s + ")", Due.NONE);
            }
            ring(t).go("table(0, 7, 1, false)", "table(0, 0, 1, true)").due("silence(0, 1)", Due.NONE).due("silence(0, 0)", 0);
        });
    }

    private static void ever(Edges t) {
        t.test("Promise 35", "STATES from which it would never be HEARD, as a set.", () -> {
            t.run().go("craft(1, 0, 10)").due("ever(0)", 255);
            ring(t).due("ever(0)", 255).go("table(0, 4, 5, true)").due("ever(0)", 0).go("table(0, 7, 7, false)").due("ever(0)", 224);
            Run all = t.run().go("craft(1, 0, 10)");
            for (int s = 0; s < 8; s++) {
                all.go("table(0, " + s + ", 0, true)");
            }
            all.due("ever(0)", 0).go("table(0, 7, 7, false)").due("ever(0)", 128).go("table(0, 0, 0, false)").due("ever(0)", 129);
            t.unchanged(() -> Made.busy(t), "ever(0)", 248);
        });
        t.test("Promise 35", "BEYOND.", () -> {
            t.refused(Due.BEYOND, "ever(-1)", "ever(3)", "ever(" + MOST + ")");
            t.refused(() -> t.run(), Due.BEYOND, "ever(0)");
        });
    }

    private static void cell(Edges t) {
        t.test("Promise 36", "ODDS of a CELL (0 to 63) become v: what they were; it wasn't looked into then.", () -> {
            Run x = t.run().due("cell(0, 99)", 0).due("cell(63, 98)", 0).due("cell(0, 0)", 99).due("cell(0, 97)", 0).due("seek()", 63);
            x.due("count(12)", 1).due("cell(63, 98)", 98).due("count(12)", 2).due("seek()", 63).due("cell(63, 0)", 98);
            x.due("count(12)", 1).due("seek()", 0).due("seek()", Due.NONE).due("cell(0, 1)", 97).due("seek()", 0);
        });
        t.test("Promise 36", "BEYOND.", () -> t.refused(Due.BEYOND, "cell(-1, 0)", "cell(64, 0)", "cell(0, -1)", "cell(0, 100)",
            "cell(63, 100)", "cell(" + LEAST + ", 0)", "cell(0, " + MOST + ")"));
    }

    private static void seek(Edges t) {
        t.test("Promise 37", "The next LOOK: its CELL.", () -> {
            Run x = t.run();
            for (int i = 63; i >= 0; i--) {
                x.go("cell(" + i + ", 1)");
            }
            for (int i = 0; i < 64; i++) {
                x.due("seek()", i).due("count(12)", 63 - i);
            }
            x.due("seek()", Due.NONE);
            t.run().go("cell(5, 98)", "cell(9, 99)", "cell(1, 98)").due("seek()", 9).due("seek()", 1).due("seek()", 5);
        });
        t.test("Promise 37", "NONE: none is left with ODDS above 0.", () -> {
            t.refused(() -> t.run(), Due.NONE, "seek()");
            t.refused(() -> Made.busy(t).go("seek()").due("seek()", 6), Due.NONE, "seek()");
            t.refused(() -> t.run().go("cell(0, 1)", "cell(0, 0)"), Due.NONE, "seek()");
        });
    }

    private static void stop(Edges t) {
        t.test("Promise 38", "After how many LOOKS (of those to come) their ODDS together are at least v hundredths of all ODDS of CELLS"
            + " that weren't looked into (v 1 to 100).", () -> {
            Run x = t.run().go("cell(0, 20)", "cell(1, 30)", "cell(2, 50)").due("stop(1)", 1).due("stop(50)", 1).due("stop(51)", 2);
            x.due("stop(80)", 2).due("stop(81)", 3).due("stop(100)", 3).due("seek()", 2).due("stop(60)", 1).due("stop(61)", 2);
            Run all = t.run();
            for (int i = 0; i < 64; i++) {
                all.go("cell(" + i + ", 99)");
            }
            all.due("stop(100)", 64).due("stop(1)", 1).due("stop(2)", 2).due("stop(50)", 32).due("stop(51)", 33).due("stop(99)", 64);
            Run odd = t.run().go("cell(0, 1)", "cell(1, 1)", "cell(2, 1)").due("stop(33)", 1).due("stop(34)", 2).due("stop(66)", 2);
            odd.due("stop(67)", 3);
            t.unchanged(() -> Made.busy(t), "stop(100)", 2);
        });
        t.test("Promise 38", "BEYOND.", () -> {
            t.refused(Due.BEYOND, "stop(0)", "stop(101)", "stop(-1)", "stop(" + LEAST + ")", "stop(" + MOST + ")");
            t.refused(() -> t.run(), Due.BEYOND, "stop(0)", "stop(101)");
        });
        t.test("Promise 38", "NONE: all of these are 0.", () -> {
            t.refused(() -> t.run(), Due.NONE, "stop(1)", "stop(100)");
            t.refused(() -> Made.busy(t).go("seek()", "seek()"), Due.NONE, "stop(1)", "stop(100)");
            t.run().go("cell(5, 1)").due("stop(100)", 1).go("cell(5, 0)").due("stop(100)", Due.NONE);
        });
    }
}
