/** Section 3 of the terms: THE PLAN. */
final class Terms3Edges {
    private Terms3Edges() {
    }

    static void all(Edges t) {
        lookedAt(t);
        broken(t);
        byNumbers(t);
        firstHour(t);
        behindOthers(t);
        up(t);
        to(t);
        mostWeight(t);
        fewest(t);
        firstRow(t);
        hold(t);
    }

    private static void lookedAt(Edges t) {
        t.test("Terms 3", "for ASKINGS that wait (the 5 with the least numbers; others aren't looked at)", () -> {
            Run none = t.run().due("plan(-1)", 0);
            none.due("hold()", 0);
            Run x = Made.plans(t, 0).asks("track c0n1from0to99;track c0n1from0to99;track c0n1from0to99");
            x.asks("track c0n1from0to99").due("plan(-1)", 4).asks("track c0n1from0to99").due("plan(-1)", 5);
            x.asks("track c0n1from0to99worth999").due("plan(-1)", 5).due("plan(4)", 0).due("plan(5)", -1);
            x.go("hold()").due("asking(4, 6)", 1).due("asking(5, 6)", 0).due("plan(-1)", 999).due("plan(5)", 0);
            x.go("drop(2)").due("plan(-1)", 1000).due("plan(2)", 0);
        });
        t.test("Terms 3", "THE PLAN, for ASKINGS that wait", () -> {
            Run x = Made.busy(t).due("plan(0)", -1).due("plan(1)", -1).due("plan(3)", -1).due("plan(4)", -1);
            x.due("plan(9)", 0).due("plan(10)", -1);
            x.go("worth(3, 50)").due("plan(3)", -1).due("plan(9)", -1);
        });
    }

    private static void broken(Edges t) {
        t.test("Terms 3", "each is put on a DISH that isn't BROKEN, or on none.", () -> {
            Run x = Made.plans(t, 0).go("dish(0, 1, 0)", "dish(1, 1, 0)").asks("track c0n1from0to9");
            x.due("plan(0)", 0).go("mend(0, true)").due("plan(0)", 1).go("mend(1, true)").due("plan(0)", -1).due("plan(-1)", 0);
            x.go("mend(1, false)").due("plan(0)", 1).go("mend(0, false)").due("plan(0)", 0);
        });
        t.test("Terms 3", "or on none", () -> {
            Run six = Made.plans(t, 0).go("dish(0, 1, 0)", "dish(0, 1, 0)", "dish(0, 1, 0)", "dish(0, 1, 0)", "dish(1, 1, 0)");
            six.asks("track c1n4from0to99worth99;track c0n1from0to1").dues("plan(*)", -1, 0).due("plan(-1)", 1).due("hold()", 1);
            Run x = t.run().go("craft(1, 0, 10)", "rises(0, 0, 0, 24)").asks("track c0n1from0to9").due("plan(0)", -1);
            x.due("plan(-1)", 0).due("hold()", 0).go("dish(1, 1, 0)").due("plan(0)", -1).go("dish(0, 1, 0)").due("plan(0)", 1);
        });
    }

    private static void byNumbers(Edges t) {
        t.test("Terms 3", "Those on one DISH stand by numbers", () -> {
            Run x = Made.plans(t, 0).asks("track c0n1from5to9;track c0n1from0to9");
            x.due("begins(0)", 5).due("begins(1)", 6);
            Run y = Made.plans(t, 0).asks("track c0n1from5to9;track c0n1from0to5").due("plan(-1)", 1);
            y.go("dish(0, 1, 0)").due("plan(-1)", 2).due("plan(1)", 1).due("begins(1)", 0);
        });
    }

    private static void firstHour(Edges t) {
        t.test("Terms 3", "each begins in the first HOUR, not ahead of its FROM, the open HOUR", () -> {
            Run x = Made.plans(t, 3).asks("track c0n1from4to9").due("begins(0)", 4).go("run(4)").due("begins(0)", 4);
            x.go("run(1)").due("begins(0)", 5).go("run(3)").due("begins(0)", 8).go("run(1)").due("begins(0)", Due.NONE);
            Made.plans(t, 3).asks("track c0n1from0to1").due("begins(0)", 0).go("run(1)").due("begins(0)", Due.NONE);
        });
        t.test("Terms 3", "the end of the one ahead of it there", () -> {
            Run x = Made.plans(t, 0).asks("track c0n9from0to9;track c0n1from0to10;track c0n1from0to10").due("plan(-1)", 2);
            x.due("begins(1)", 9).due("plan(2)", -1);
        });
    }

    private static void behindOthers(Edges t) {
        t.test("Terms 3", "(TRACKS that are planned or run there, too: it begins behind all of these)", () -> {
            Run x = Made.held(Made.plans(t, 1), "track c0n2from20to22;track c0n2from30to32").go("drop(0)");
            x.due("begins(0)", Due.NONE).asks("track c0n1from0to99").due("begins(2)", 33);
            x.go("drop(1)").due("begins(0)", 20).due("begins(1)", 30).due("begins(2)", 33);
            Run y = Made.held(Made.plans(t, 2), "track c0n5from0to5").asks("track c0n1from0to99").due("begins(1)", 7);
            y.go("run(1)").due("begins(1)", 7).go("run(3)").due("begins(1)", 7).go("run(1)").due("begins(1)", 5);
        });
        t.test("Terms 3", "and TURN HOURS more (behind none: no TURN)", () -> {
            for (int turn = 0; turn <= 3; turn++) {
                Run x = Made.plans(t, turn).asks("track c0n1from0to99;track c0n1from0to99;track c0n1from0to99");
                x.due("begins(0)", 0).due("begins(1)", 1 + turn).due("begins(2)", 2 + 2 * turn);
                x.go("hold()", "run(1)").asks("track c0n1from0to99").due("begins(3)", 3 + 3 * turn);
                x.go("run(20)").due("begins(3)", 21);
            }
            Run y = Made.plans(t, 3).asks("track c0n1from0to1;track c0n1from4to5").due("plan(-1)", 2).due("begins(1)", 4);
            y.due("hold()", 2);
            Made.plans(t, 3).asks("track c0n1from0to1;track c0n1from3to4").due("plan(-1)", 1).due("plan(1)", -1);
        });
    }

    private static void up(Edges t) {
        t.test("Terms 3", "from which on its CRAFT is UP at the DISH's PLACE for N HOURS in a row", () -> {
            Run x = Made.plans(t, 0).asks("track c1n3from0to99;track c1n2from6to99").due("begins(0)", 5).due("begins(1)", 29);
            x.go("worth(0, 0)").due("begins(1)", 6);
            Run y = Made.plans(t, 0).asks("track c1n4from0to99;track c1n3from6to32;track c1n1from8to30").due("plan(0)", -1);
            y.due("begins(1)", 29).due("plan(2)", -1);
            y.go("worth(1, 0)").due("begins(2)", 29);
            Run midnight = t.run().go("dish(2, 1, 0)", "craft(1, 0, 10)", "rises(0, 2, 23, 2)").asks("track c0n2from0to25");
            midnight.due("begins(0)", 23).go("run(24)").due("begins(0)", Due.NONE);
            Run all = t.run().go("dish(2, 1, 0)", "craft(1, 0, 10)", "rises(0, 2, 12, 24)").asks("track c0n9from20to29");
            all.due("begins(0)", 20);
            Run other = t.run().go("dish(1, 1, 0)", "dish(2, 1, 0)", "craft(1, 0, 10)", "rises(0, 2, 3, 1)");
            other.asks("track c0n1from0to9").due("plan(0)", 1).due("begins(0)", 3);
        });
        t.test("Terms 3", "from which on its CRAFT is UP", () -> {
            Run x = Made.plans(t, 0).asks("track c0n9from9980to9999;track c1n1from9990to9999");
            x.due("begins(0)", 9980).due("begins(1)", 9990);
            Made.plans(t, 0).asks("track c1n3from9965to9968").due("begins(0)", 9965);
            Made.plans(t, 0).asks("track c1n3from9966to9999").due("begins(0)", 9989);
            Made.plans(t, 0).asks("track c1n3from9990to9999").due("plan(0)", -1);
        });
    }

    private static void to(Edges t) {
        t.test("Terms 3", "they must end ahead of TO", () -> {
            Run x = Made.plans(t, 0).asks("track c1n3from0to8;track c1n3from0to7").due("plan(0)", 0).due("plan(1)", -1);
            x.go("worth(0, 0)").due("plan(-1)", 0);
            Run y = Made.plans(t, 0).asks("track c0n4from0to4;track c0n4from0to8;track c0n4from0to11").due("plan(-1)", 2);
            y.due("begins(1)", 4).due("plan(2)", -1).asks("track c0n1from0to9").due("plan(-1)", 3).due("begins(3)", 8);
        });
    }

    private static void mostWeight(Edges t) {
        t.test("Terms 3", "Of all ways in which each can: that with the most WEIGHT together", () -> {
            Run x = Made.plans(t, 0).asks("track c0n4from0to5worth3;track c0n4from0to5worth4;hear c0n4from0to5");
            x.due("plan(-1)", 9).due("plan(0)", -1).due("plan(1)", -1).due("plan(2)", 0);
            x.go("worth(1, 10)").due("plan(-1)", 10).due("plan(1)", 0).due("plan(2)", -1);
            Run y = Made.plans(t, 0).asks("track c0n9from0to9worth5;track c0n3from0to9worth2;track c0n3from0to9worth2");
            y.due("plan(0)", 0).due("plan(-1)", 5).asks("track c0n3from0to9worth2").due("plan(-1)", 6).due("plan(0)", -1);
        });
        t.test("Terms 3", "that with the most WEIGHT together", () -> {
            Run x = t.run().go("dish(0, 1, 0)", "dish(0, 1, 0)", "craft(1, 0, 10)", "craft(1, 0, 10)");
            x.go("rises(0, 0, 0, 24)", "rises(1, 0, 0, 2)");
            x.asks("track c0n5from0to5;track c1n2from0to2;track c0n3from2to5;track c0n5from0to5worth3");
            x.due("plan(-1)", 5).dues("plan(*)", -1, 0, 0, 1);
        });
    }

    private static void fewest(Edges t) {
        t.test("Terms 3", "of several that with the fewest ASKINGS", () -> {
            Run x = Made.plans(t, 0).asks("track c0n4from0to9worth2;track c0n5from0to9worth2;track c0n9from0to9worth4");
            x.due("plan(-1)", 4).dues("plan(*)", -1, -1, 0).due("hold()", 1);
            Run y = Made.plans(t, 0).asks("track c0n1from0to9worth0;track c0n1from0to9").due("plan(-1)", 1);
            Run nothing = Made.plans(t, 0).asks("track c0n4from0to9worth2;track c0n5from0to9worth2;track c0n9from0to9worth4");
            nothing.asks("track c0n1from0to9worth0;track c0n1from0to1worth0").dues("plan(*)", -1, -1, 0, -1, -1).due("hold()", 1);
            y.dues("plan(*)", -1, 0).due("hold()", 1).due("plan(-1)", 0).due("hold()", 0).due("plan(0)", -1);
        });
    }

    private static void firstRow(Edges t) {
        t.test("Terms 3", "of several the first as a row of DISHES (none behind all).", () -> {
            Run x = Made.plans(t, 0).go("dish(0, 1, 0)").asks("track c0n1from0to9;track c0n1from0to9").dues("plan(*)", 0, 0);
            Run y = Made.plans(t, 0).go("dish(0, 1, 0)").asks("track c0n1from0to1;track c0n1from0to1").dues("plan(*)", 0, 1);
            Run z = Made.plans(t, 0).asks("track c0n1from0to1;track c0n1from0to1;track c0n1from0to1").dues("plan(*)", 0, -1, -1);
            y.due("plan(-1)", 2).due("hold()", 2);
            x.due("plan(-1)", 2).due("begins(1)", 1);
            z.due("plan(-1)", 1).due("hold()", 1);
            Run more = Made.plans(t, 0).go("dish(0, 1, 0)");
            more.asks("track c0n2from0to2;track c0n2from0to2;track c0n2from0to2;track c0n2from0to4").dues("plan(*)", 0, 1, -1, 0);
        });
    }

    private static void hold(Edges t) {
        t.test("Terms 3", "TO HOLD THE PLAN: its ASKINGS are planned on their DISHES, from their HOURS on.", () -> {
            Run x = Made.plans(t, 3).go("dish(0, 1, 0)").asks("track c0n1from0to1;track c0n1from2to4;track c1n3from0to3");
            x.dues("plan(*)", 0, 1, -1).due("begins(1)", 2).due("hold()", 2);
            x.dues("asking(*, 6)", 1, 1, 0).dues("asking(*, 7)", 0, 1, -1).dues("asking(*, 8)", 0, 2, -1).due("plan(1)", -1);
            t.run().due("hold()", 0);
        });
    }
}
