/** Promises 12 to 17: the tape, askings. */
final class AskingsEdges {
    private static final int LEAST = Integer.MIN_VALUE;
    private static final int MOST = Integer.MAX_VALUE;

    private AskingsEdges() {
    }

    static void all(Edges t) {
        feed(t);
        wipe(t);
        asks(t);
        asking(t);
        as(t);
        worth(t);
    }

    private static Run tapeOf(Edges t, int bytes) {
        return Made.busy(t).go("wipe()").feed("far c0n1from0to1" + " ".repeat(bytes - 16));
    }

    private static void feed(Edges t) {
        t.test("Promise 12", "THE TAPE gets the n lowest bytes of a number behind it, the highest of these first (n 1 to 4): how many it"
            + " has.", () -> {
            Run x = t.run().go("craft(1, 0, 10)").due("feed(" + 0x66617220 + ", 4)", 4).due("feed(" + 0x78633030 + ", 3)", 7);
            x.due("feed(" + 0x7878206e + ", 2)", 9).due("feed(" + 0x78787831 + ", 1)", 10).feed("from0to1worth7");
            x.due("asks()", 1).dues("asking(0, *)", 4, 0, 1, 0, 1, 7);
            Run high = t.run().due("feed(-1, 4)", 4).due("asks()", -1).due("feed(-1, 1)", 1).due("feed(" + LEAST + ", 4)", 5);
            high.due("wipe()", 5);
        });
        t.test("Promise 12", "BEYOND: n.", () -> {
            t.refused(Due.BEYOND, "feed(0, 0)", "feed(0, 5)", "feed(0, -1)", "feed(0, " + LEAST + ")", "feed(0, " + MOST + ")");
            t.refused(() -> tapeOf(t, 110), Due.BEYOND, "feed(0, 0)", "feed(0, 5)");
        });
        t.test("Promise 12", "FULL.", () -> {
            t.refused(() -> tapeOf(t, 110), Due.FULL, "feed(0, 1)", "feed(0, 4)");
            t.refused(() -> tapeOf(t, 107), Due.FULL, "feed(0, 4)");
            t.refused(() -> tapeOf(t, 109), Due.FULL, "feed(0, 2)");
            for (int n = 1; n <= 4; n++) {
                tapeOf(t, 110 - n).due("feed(0, " + n + ")", 110).due("feed(0, 1)", Due.FULL);
            }
        });
    }

    private static void wipe(Edges t) {
        t.test("Promise 13", "THE TAPE is empty: how many it had.", () -> {
            t.run().due("wipe()", 0).due("feed(0, 1)", 1).due("wipe()", 1).due("count(10)", 0).due("wipe()", 0);
            tapeOf(t, 110).due("wipe()", 110).due("count(10)", 0).due("asks()", -1).due("feed(0, 4)", 4);
        });
    }

    private static void asks(Edges t) {
        t.test("Promise 14", "THE TAPE is a TEXT: how many ASKINGS come; it is empty then.", () -> {
            Run x = t.run().go("craft(1, 0, 10)").asks("far c0n1from0to1", 1).due("count(10)", 0).due("asks()", -1);
            x.asks("far c0n1from0to1;far c0n1from0to1;far c0n1from0to1;far c0n1from0to1", 4).due("count(10)", 0).due("count(3)", 5);
            tapeOf(t, 110).due("asks()", 1).due("count(10)", 0).due("asking(11, 0)", 4);
        });
        t.test("Promise 14", "With a FAULT: -1 less its place (no finding; THE TAPE is empty, too).", () -> {
            t.run().due("asks()", -1).due("status(-1)", 0);
            Run x = t.run().go("craft(1, 0, 10)").asks("far c0n1from0to1;far c0n1from0to1;x", -35).due("count(3)", 0);
            x.due("count(10)", 0).due("status(-1)", 0).due("asks()", -1);
            t.run().asks("x".repeat(110), -1).due("count(10)", 0);
            t.run().asks(" ".repeat(109) + "x", -110).due("count(10)", 0);
            t.run().asks(" ".repeat(110), -111).due("count(10)", 0).due("status(-1)", 0);
            thirteen(t).asks("far c0n1from0to1;x", -18).due("count(3)", 13).due("count(10)", 0).due("status(-1)", 0);
        });
        t.test("Promise 14", "FULL: there is no room for all of them (THE TAPE stays).", () -> {
            t.refused(() -> thirteen(t).feed("far c0n1from0to1;far c0n1from0to1"), Due.FULL, "asks()");
            t.refused(() -> thirteen(t).asks("far c0n1from0to1").feed("far c0n1from0to1"), Due.FULL, "asks()");
            Run x = thirteen(t).feed("far c0n1from0to1;far c0n1from0to1").due("asks()", Due.FULL).due("count(10)", 33);
            x.due("count(3)", 13).due("wipe()", 33).asks("far c0n1from0to1", 1).due("count(3)", 14);
            Run eleven = Made.busy(t).go("wipe()").feed("far c0n1from0to1;far c0n1from0to1;far c0n1from0to1");
            eleven.due("asks()", 3).due("count(3)", 14);
            Run all = thirteen(t).asks("far c0n1from0to1").asks("far c1n1from0to1", -6).asks("", -1).due("count(3)", 14);
            all.due("status(-1)", 0);
        });
    }

    /** One more can come. */
    private static Run thirteen(Edges t) {
        Run x = t.run().go("craft(1, 0, 10)");
        for (int i = 0; i < 3; i++) {
            x.asks("far c0n1from0to1;far c0n1from0to1;far c0n1from0to1;far c0n1from0to1");
        }
        return x.asks("far c0n1from0to1");
    }

    private static void asking(Edges t) {
        t.test("Promise 15", "Of an ASKING: what 0 kind, 1 CRAFT, 2 N, 3 FROM, 4 TO, 5 WORTH, 6 0 waits to 4 broken, 7 its DISH (-1: none"
            + " yet), 8 the HOUR in which it begins (-1), 9 WEIGHT.", () -> {
            Run x = Made.busy(t).dues("asking(0, *)", 0, 0, 1, 0, 1, 1, 3, 0, 0, 1).dues("asking(1, *)", 3, 1, 9, 20, 40, 9, 2, 1, 20, 13);
            x.dues("asking(3, *)", 0, 0, 1, 24, 25, 1, 4, 2, 24, 1).dues("asking(4, *)", 1, 0, 2, 60, 70, 1, 1, 0, 60, 1);
            x.dues("asking(6, *)", 2, 1, 2, 30, 99, 1, 0, -1, -1, 5).dues("asking(7, *)", 4, 2, 3, 0, 99, 4, 0, -1, -1, 36);
            x.dues("asking(8, *)", 6, 0, 9, 50, 62, 2, 0, -1, -1, 40).dues("asking(10, *)", 0, 0, 1, 0, 99, 99, 0, -1, -1, 99);
            x.go("drop(4)").due("asking(4, 6)", 0).due("asking(4, 7)", -1).due("asking(4, 8)", -1);
            x.go("worth(3, 0)").due("asking(3, 6)", 0).due("asking(3, 7)", -1).due("asking(3, 8)", -1);
        });
        t.test("Promise 15", "BEYOND.", () -> {
            t.refused(Due.BEYOND, "asking(-1, 0)", "asking(11, 0)", "asking(0, -1)", "asking(0, 10)", "asking(0, " + MOST + ")",
                "asking(" + LEAST + ", 0)");
            t.refused(() -> t.run(), Due.BEYOND, "asking(0, 0)");
        });
    }

    private static void as(Edges t) {
        t.test("Promise 16", "An ASKING as one of a kind: its number.", () -> {
            Run x = Made.busy(t).due("as(0, 0)", 0).due("as(1, 3)", 1).due("as(1, 0)", 1).due("as(4, 1)", 4).due("as(7, 4)", 7);
            x.due("as(7, 3)", 7).due("as(7, 0)", 7).due("as(8, 6)", 8).due("as(8, 2)", 8).due("as(10, 0)", 10);
            x.asks(";shared c0n1from0to1", -8).asks("shared c0n1from0to1", 1);
            x.due("as(11, 5)", 11).due("as(11, 2)", 11).due("as(11, 0)", 11).due("as(11, 6)", Due.KIND);
        });
        t.test("Promise 16", "BEYOND: no such ASKING, kind.", () -> {
            t.refused(Due.BEYOND, "as(-1, 0)", "as(11, 0)", "as(0, -1)", "as(0, 7)", "as(0, " + LEAST + ")", "as(11, 7)", "as(14, 6)");
            t.refused(() -> t.run(), Due.BEYOND, "as(0, 0)");
        });
        t.test("Promise 16", "KIND: it isn't of that kind, nor of one under it.", () ->
            t.refused(Due.KIND, "as(0, 1)", "as(0, 6)", "as(1, 1)", "as(1, 2)", "as(1, 4)", "as(4, 3)", "as(6, 5)", "as(7, 1)", "as(8, 5)"));
    }

    private static void worth(Edges t) {
        t.test("Promise 17", "An ASKING that waits, or is broken, waits from now on with another WORTH: what it was.", () -> {
            Run x = Made.busy(t).due("worth(5, 999)", 3).due("worth(5, 0)", 999).due("asking(5, 5)", 0).due("asking(5, 6)", 0);
            x.due("worth(5, 0)", 0).due("worth(10, 99)", 99).due("count(8)", 1).due("worth(3, 7)", 1).due("asking(3, 6)", 0);
            x.due("count(8)", 0).due("count(4)", 7).due("asking(3, 5)", 7).due("asking(3, 9)", 7).due("worth(3, 8)", 7);
        });
        t.test("Promise 17", "BEYOND.", () -> {
            t.refused(Due.BEYOND, "worth(-1, 0)", "worth(11, 0)", "worth(5, -1)", "worth(5, 1000)", "worth(0, 1000)", "worth(0, -1)",
                "worth(3, 1000)", "worth(5, " + MOST + ")");
            t.refused(() -> t.run(), Due.BEYOND, "worth(0, 0)");
        });
        t.test("Promise 17", "STATE: it is planned, runs, or is done.", () ->
            t.refused(Due.STATE, "worth(4, 0)", "worth(1, 0)", "worth(2, 999)", "worth(0, 1)"));
    }
}
