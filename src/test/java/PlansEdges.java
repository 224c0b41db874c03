/** Promises 18 to 25: plans. */
final class PlansEdges {
    private static final int LEAST = Integer.MIN_VALUE;
    private static final int MOST = Integer.MAX_VALUE;

    private PlansEdges() {
    }

    static void all(Edges t) {
        plan(t);
        begins(t);
        without(t);
        takes(t);
        bars(t);
        judge(t);
        judgeFindings(t);
        hold(t);
        drop(t);
    }

    /** ASKING 0 weighs 3, 1 weighs 4: only one of them can be; 2 weighs 1 and always can. */
    private static Run three(Edges t) {
        return Made.plans(t, 0).asks("track c0n4from0to5worth3;track c0n4from0to5worth4;track c0n1from6to9worth1");
    }

    /** Six wait on one DISH, the sixth weighs 9. */
    private static Run six(Edges t) {
        Run x = Made.plans(t, 0).asks("track c0n1from0to9;track c0n1from0to9;track c0n1from0to9");
        return x.asks("track c0n1from0to9;track c0n1from0to9;track c0n1from0to9worth9");
    }

    private static void plan(Edges t) {
        t.test("Promise 18", "THE PLAN: -1 its WEIGHT; of an ASKING its DISH (-1: none, or it isn't looked at; no finding).", () -> {
            t.run().due("plan(-1)", 0).due("status(-1)", 0);
            three(t).due("plan(-1)", 5).dues("plan(*)", -1, 0, 0).due("status(-1)", 0);
            Run x = six(t).due("plan(-1)", 5).dues("plan(*)", 0, 0, 0, 0, 0, -1).go("hold()").dues("plan(*)", -1, -1, -1, -1, -1, 0);
            x.due("status(-1)", 0).due("plan(-1)", 9);
            t.unchanged(() -> Made.busy(t), "plan(-1)", 9);
            t.unchanged(() -> Made.busy(t), "plan(5)", 0);
            t.unchanged(() -> Made.busy(t), "plan(10)", -1);
        });
        t.test("Promise 18", "BEYOND: no such ASKING.", () -> {
            t.refused(Due.BEYOND, "plan(-2)", "plan(11)", "plan(14)", "plan(" + MOST + ")", "plan(" + LEAST + ")");
            t.refused(() -> t.run(), Due.BEYOND, "plan(0)");
        });
    }

    private static void begins(Edges t) {
        t.test("Promise 19", "The HOUR in which an ASKING would begin by THE PLAN.", () -> {
            three(t).due("begins(1)", 0).due("begins(2)", 6).go("run(1)").due("begins(1)", 1).go("run(1)").due("begins(2)", 6);
            six(t).dues("begins(*)", 0, 1, 2, 3, 4);
            t.unchanged(() -> Made.busy(t), "begins(5)", 63);
        });
        t.test("Promise 19", "BEYOND.", () -> {
            t.refused(Due.BEYOND, "begins(-1)", "begins(11)", "begins(" + MOST + ")");
            t.refused(() -> t.run(), Due.BEYOND, "begins(0)");
        });
        t.test("Promise 19", "NONE: it has no DISH in it.", () -> {
            t.refused(Due.NONE, "begins(0)", "begins(1)", "begins(3)", "begins(4)", "begins(7)", "begins(10)");
            three(t).due("begins(0)", Due.NONE);
            six(t).due("begins(5)", Due.NONE);
        });
    }

    private static void without(Edges t) {
        t.test("Promise 20", "What THE PLAN would weigh if an ASKING that waits weren't there.", () -> {
            three(t).dues("without(*)", 5, 4, 4).due("plan(-1)", 5);
            six(t).dues("without(*)", 13, 13, 13, 13, 13, 5);
            Made.plans(t, 0).asks("track c0n1from0to9").due("without(0)", 0).due("plan(-1)", 1);
            t.unchanged(() -> six(t), "without(0)", 13);
            t.unchanged(() -> Made.busy(t), "without(6)", 103);
        });
        t.test("Promise 20", "BEYOND.", () -> {
            t.refused(Due.BEYOND, "without(-1)", "without(11)", "without(" + LEAST + ")");
            t.refused(() -> t.run(), Due.BEYOND, "without(0)");
        });
        t.test("Promise 20", "STATE: it doesn't wait.", () ->
            t.refused(Due.STATE, "without(0)", "without(1)", "without(2)", "without(3)", "without(4)"));
    }

    private static void takes(Edges t) {
        t.test("Promise 21", "ASKINGS that would not be in THE PLAN any more, if an ASKING that waits had a WORTH (0 to 999), as a set"
            + " (nothing changes).", () -> {
            three(t).due("takes(0, 0)", 0).due("takes(0, 3)", 0).due("takes(0, 4)", 2).due("takes(0, 999)", 2).due("takes(1, 0)", 2);
            three(t).due("takes(1, 2)", 2).due("takes(1, 999)", 0).due("takes(2, 0)", 4).due("takes(2, 999)", 0);
            Run x = Made.plans(t, 0).asks("track c0n9from0to9worth3;track c0n3from0to9worth2;track c0n3from0to9worth2");
            x.due("takes(0, 3)", 0).due("takes(0, 4)", 6).due("takes(0, 999)", 6);
            x.go("worth(0, 9)").due("takes(1, 6)", 0).due("takes(1, 8)", 1).due("takes(2, 999)", 1).due("takes(0, 0)", 1);
            six(t).due("takes(5, 999)", 0).due("takes(5, 0)", 0);
            t.unchanged(() -> three(t), "takes(0, 999)", 2);
            t.unchanged(() -> Made.busy(t), "takes(5, 0)", 32);
        });
        t.test("Promise 21", "BEYOND.", () -> {
            t.refused(Due.BEYOND, "takes(-1, 0)", "takes(11, 0)", "takes(5, -1)", "takes(5, 1000)", "takes(0, 1000)", "takes(5, " + MOST + ")");
            t.refused(() -> t.run(), Due.BEYOND, "takes(0, 0)");
        });
        t.test("Promise 21", "STATE: it doesn't wait.", () ->
            t.refused(Due.STATE, "takes(0, 0)", "takes(1, 999)", "takes(2, 0)", "takes(3, 0)", "takes(4, 0)"));
    }

    private static void bars(Edges t) {
        t.test("Promise 22", "Whether two ASKINGS that wait bar each other: 1 if THE PLAN of these two alone doesn't have both, but that of"
            + " each alone has it; else 0.", () -> {
            three(t).due("bars(0, 1)", 1).due("bars(1, 0)", 1).due("bars(0, 2)", 0).due("bars(2, 1)", 0);
            three(t).go("worth(0, 0)").due("bars(0, 1)", 0).due("bars(1, 0)", 0);
            three(t).go("mend(0, true)").due("bars(0, 1)", 0);
            three(t).go("dish(0, 1, 0)").due("bars(0, 1)", 0);
            Run x = Made.plans(t, 0).asks("track c0n1from5to6;track c0n1from0to5").due("bars(0, 1)", 1);
            x.asks("track c0n1from6to7").due("bars(0, 2)", 0).due("bars(1, 2)", 0);
            Run heavy = three(t).go("worth(0, 999)").asks("track c0n4from0to5").due("bars(1, 3)", 1).due("bars(3, 1)", 1);
            heavy.due("bars(2, 3)", 1).due("bars(1, 2)", 0).due("bars(3, 0)", 1);
            six(t).asks("track c0n9from0to9").asks("track c0n9from0to9").due("bars(6, 7)", 1).due("bars(0, 7)", 1).due("bars(0, 5)", 0);
            t.unchanged(() -> Made.busy(t), "bars(5, 6)", 0);
            t.unchanged(() -> three(t), "bars(0, 1)", 1);
        });
        t.test("Promise 22", "BEYOND: also one twice.", () -> {
            t.refused(Due.BEYOND, "bars(-1, 5)", "bars(5, -1)", "bars(11, 5)", "bars(5, 11)", "bars(5, 5)", "bars(0, 0)", "bars(0, 11)",
                "bars(11, 0)", "bars(" + MOST + ", " + MOST + ")");
            t.refused(() -> Made.plans(t, 0).asks("track c0n1from0to1"), Due.BEYOND, "bars(0, 0)", "bars(0, 1)", "bars(1, 0)");
        });
        t.test("Promise 22", "STATE: one doesn't wait.", () -> t.refused(Due.STATE, "bars(0, 5)", "bars(5, 0)", "bars(1, 5)", "bars(5, 3)",
            "bars(4, 5)", "bars(5, 4)", "bars(0, 1)", "bars(3, 4)"));
    }

    /** Three wait, with a sheet of 8 bits of that many numbers. */
    private static Run judged(Edges t, int... dishes) {
        Run x = three(t).go("dish(0, 1, 0)", "dish(1, 1, 0)", "sheet(0, 8, " + dishes.length + ")");
        for (int i = 0; i < dishes.length; i++) {
            x.go("write(0, " + i + ", " + dishes[i] + ")");
        }
        return x;
    }

    private static void judge(Edges t) {
        t.test("Promise 23", "Of DISHES on a sheet, by the places of it for ASKINGS that wait (by numbers, the 5 that are looked at; -1:"
            + " none): the WEIGHT if they can stand so, else -1.", () -> {
            judged(t, -1, -1, -1).due("judge(0)", 0);
            judged(t, 0, -1, 0).due("judge(0)", 4);
            judged(t, 0, 1, 1).due("judge(0)", 8);
            judged(t, 0, 0, -1).due("judge(0)", -1).due("status(-1)", 0);
            judged(t, 0, 1, 2).due("judge(0)", -1).go("write(0, 2, -1)").due("judge(0)", 7);
            judged(t, 1, 0, 1).due("judge(0)", 8).go("mend(1, true)").due("judge(0)", -1).due("status(-1)", 0);
            t.run().go("sheet(3, 32, 0)").due("judge(3)", 0);
            Run five = six(t).go("sheet(1, 16, 5)").due("judge(1)", 5).go("write(1, 4, -1)").due("judge(1)", 4);
            five.go("hold()", "sheet(1, 16, 1)").due("judge(1)", 9);
            t.unchanged(() -> judged(t, 0, 1, 1), "judge(0)", 8);
            t.unchanged(() -> judged(t, 0, 0, -1), "judge(0)", -1);
        });
        t.test("Promise 23", "(by numbers, the 5 that are looked at; -1: none)", () -> {
            for (int bits = 8; bits <= 32; bits *= 2) {
                Run x = three(t).go("sheet(0, " + bits + ", 3)", "write(0, 0, -1)", "write(0, 1, -1)");
                x.due("judge(0)", 1).go("write(0, 1, 0)").due("judge(0)", 5).go("write(0, 2, -1)").due("judge(0)", 4);
            }
        });
    }

    private static void judgeFindings(Edges t) {
        t.test("Promise 23", "BEYOND: no such sheet.", () -> {
            t.refused(Due.BEYOND, "judge(-1)", "judge(4)", "judge(" + LEAST + ")");
            t.refused(() -> t.run(), Due.BEYOND, "judge(4)");
        });
        t.test("Promise 23", "MISSING.", () -> {
            t.refused(Due.MISSING, "judge(3)");
            t.refused(() -> t.run(), Due.MISSING, "judge(0)", "judge(3)");
            three(t).go("sheet(0, 8, 3)", "sheet(0, 0, 3)").due("judge(0)", Due.MISSING);
        });
        t.test("Promise 23", "SIZE: it has not as many.", () -> {
            t.refused(Due.SIZE, "judge(1)", "judge(2)");
            t.refused(() -> judged(t, 0, 9), Due.SIZE, "judge(0)");
            t.refused(() -> judged(t, -1, -1, -1, -1), Due.SIZE, "judge(0)");
            t.refused(() -> judged(t), Due.SIZE, "judge(0)");
            t.refused(() -> six(t).go("sheet(0, 8, 6)"), Due.SIZE, "judge(0)");
            t.refused(() -> six(t).go("sheet(0, 8, 4)"), Due.SIZE, "judge(0)");
            t.run().go("sheet(0, 8, 1)").due("judge(0)", Due.SIZE);
        });
        t.test("Promise 23", "BEYOND: a number is no DISH.", () -> {
            t.refused(() -> judged(t, 3, -1, -1), Due.BEYOND, "judge(0)");
            t.refused(() -> judged(t, -1, -1, 3), Due.BEYOND, "judge(0)");
            t.refused(() -> judged(t, -1, -2, -1), Due.BEYOND, "judge(0)");
            t.refused(() -> judged(t, 0, 0, 127), Due.BEYOND, "judge(0)");
            t.refused(() -> judged(t, 0, 0, -128), Due.BEYOND, "judge(0)");
            judged(t, 2, -1, -1).due("judge(0)", -1);
        });
    }

    private static void hold(Edges t) {
        t.test("Promise 24", "THE PLAN is HELD: how many ASKINGS are planned by it.", () -> {
            t.run().due("hold()", 0);
            Run x = three(t).due("hold()", 2).dues("asking(*, 6)", 0, 1, 1).dues("asking(*, 7)", -1, 0, 0).dues("asking(*, 8)", -1, 0, 6);
            x.due("hold()", 0).due("count(5)", 2).due("plan(-1)", 0);
            six(t).due("hold()", 5).due("count(5)", 5).due("count(4)", 1).due("hold()", 1).due("hold()", 0).due("count(5)", 6);
            three(t).go("mend(0, true)").due("hold()", 0).due("count(4)", 3);
        });
    }

    private static void drop(Edges t) {
        t.test("Promise 25", "An ASKING that is planned waits again: its DISH.", () -> {
            Run x = three(t).go("dish(0, 1, 0)").due("hold()", 3).due("drop(1)", 1).due("drop(0)", 0).due("drop(2)", 0);
            x.due("count(4)", 3).due("count(5)", 0).dues("asking(*, 7)", -1, -1, -1).dues("asking(*, 8)", -1, -1, -1).due("hold()", 3);
        });
        t.test("Promise 25", "BEYOND.", () -> {
            t.refused(Due.BEYOND, "drop(-1)", "drop(11)", "drop(" + MOST + ")");
            t.refused(() -> t.run(), Due.BEYOND, "drop(0)");
        });
        t.test("Promise 25", "STATE: it isn't planned.", () -> {
            t.refused(Due.STATE, "drop(0)", "drop(1)", "drop(2)", "drop(3)", "drop(5)", "drop(10)");
            Made.busy(t).due("drop(4)", 0).due("drop(4)", Due.STATE);
        });
    }
}
