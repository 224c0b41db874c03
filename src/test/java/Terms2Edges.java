/** Section 2 of the terms: askings, what they weigh, and the texts they come from. */
final class Terms2Edges {
    private static final String[] KINDS = {"track", "send", "hear", "both", "far", "shared", "array"};
    private static final String FAULT = "The FAULT is the place of the first byte of the first that can't stand there";

    private Terms2Edges() {
    }

    static void all(Edges t) {
        askings(t);
        states(t);
        weights(t);
        ones(t);
        numbers(t);
        words(t);
        faultsOfPlace(t);
        faultsOfNumbers(t);
        tape(t);
    }

    /** CRAFT 0 (FAR 0) and CRAFT 1 (FAR 30). */
    private static Run withCraft(Edges t) {
        return t.run().go("craft(1, 0, 10)", "craft(1, 30, 10)");
    }

    /** A TEXT with a FAULT: it is told, nothing comes, THE TAPE is empty. */
    private static void fault(Edges t, String text, int place) {
        withCraft(t).asks(text, -1 - place).due("count(3)", 0).due("count(10)", 0).due("status(-1)", 0);
    }

    private static void askings(Edges t) {
        t.test("Terms 2", "ASKINGS 0, 1, .. (at most 14)", () -> {
            Run x = withCraft(t);
            for (int a = 0; a < 14; a++) {
                x.due("plan(" + a + ")", Due.BEYOND).asks("track c0n1from0to1worth" + a).due("asking(" + a + ", 5)", a);
            }
            x.asks("track c0n1from0to1", Due.FULL).due("count(3)", 14).due("plan(13)", -1).due("plan(14)", Due.BEYOND);
        });
        t.test("Terms 2", "are of a kind: 0 TRACK, 1 SEND under TRACK, 2 HEAR under TRACK, 3 BOTH under TRACK, 4 FAR under BOTH,"
            + " 5 SHARED under HEAR, 6 ARRAY under HEAR", () -> {
            Run x = withCraft(t);
            int[] above = {-1, 0, 0, 0, 3, 2, 2};
            for (int k = 0; k < 7; k++) {
                x.asks(KINDS[k] + " c0n1from0to1").due("asking(" + k + ", 0)", k);
                for (int other = 0; other < 7; other++) {
                    boolean under = other == k || other == 0 || other == above[k];
                    x.due("as(" + k + ", " + other + ")", under ? k : Due.KIND);
                }
            }
        });
        t.test("Terms 2", "each is for a CRAFT, N HOURS (1 to 9) in a row", () -> {
            withCraft(t).asks("track c0n1from0to1;track c1n9from0to9").dues("asking(*, 1)", 0, 1).dues("asking(*, 2)", 1, 9);
            fault(t, "track c0n0from0to9", 9);
            fault(t, "track c0n10from0to99", 9);
        });
        t.test("Terms 2", "FROM an HOUR, done ahead of another one (TO), WORTH 0 to 999", () -> {
            Run x = withCraft(t).asks("track c0n1from0to1worth0;track c0n1from9998to9999worth999");
            x.dues("asking(*, 3)", 0, 9998).dues("asking(*, 4)", 1, 9999).dues("asking(*, 5)", 0, 999);
            fault(t, "track c0n1from0to1worth1000", 23);
            Run y = Made.plans(t, 0).asks("track c0n3from4to7").due("begins(0)", 4).go("run(5)").due("begins(0)", Due.NONE);
            y.due("plan(-1)", 0);
        });
    }

    private static void states(Edges t) {
        t.test("Terms 2", "it waits (0), is planned (1), runs (2), is done (3), or broken (4).", () -> {
            Run x = Made.plans(t, 0).asks("track c0n2from1to3").due("asking(0, 6)", 0);
            x.go("hold()").due("asking(0, 6)", 1).go("run(1)").due("asking(0, 6)", 1).go("run(1)").due("asking(0, 6)", 2);
            x.go("image()", "run(1)").due("asking(0, 6)", 3);
            x.go("undo()", "mend(0, true)").due("asking(0, 6)", 2).go("run(1)").due("asking(0, 6)", 4);
        });
    }

    private static void weights(Edges t) {
        t.test("Terms 2", "WEIGHT of an ASKING: its WORTH; of HEAR 2 more for each HOUR; of SHARED 5 more than that; of ARRAY twice"
            + " that of HEAR", () -> {
            int[] least = {0, 0, 2, 0, 30, 7, 4};
            int[] most = {999, 999, 1017, 1498, 1528, 1022, 2034};
            for (int k = 0; k < 7; k++) {
                Run x = withCraft(t).asks(KINDS[k] + " c1n1from0to1worth0;" + KINDS[k] + " c1n9from0to9worth999");
                x.due("asking(0, 9)", least[k]).due("asking(1, 9)", most[k]);
            }
        });
        t.test("Terms 2", "of BOTH half more than WORTH (cut); of FAR that of BOTH and FAR of its CRAFT.", () -> {
            Run x = withCraft(t).asks("both c1n9from0to9worth1;both c1n9from0to9worth2;both c1n9from0to9worth3");
            x.dues("asking(*, 9)", 1, 3, 4);
            Run y = withCraft(t).asks("far c0n9from0to9worth1;far c1n9from0to9worth1;far c1n9from0to9worth3");
            y.dues("asking(*, 9)", 1, 31, 34);
        });
    }

    private static void ones(Edges t) {
        t.test("Terms 2", "TEXT: ONE { ; ONE }, 4 ONES at most.", () -> {
            String one = "far c0n1from0to1";
            String four = one + ";" + one + ";" + one + ";" + one;
            withCraft(t).asks(one, 1).asks(one + ";" + one, 2).asks(four, 4).due("count(3)", 7);
            fault(t, "", 0);
            fault(t, ";", 0);
            fault(t, one + ";", 17);
            fault(t, ";" + one, 0);
            fault(t, one + ";;" + one, 17);
            fault(t, one + " " + one, 17);
            fault(t, four + ";", 67);
            fault(t, four + ";" + one, 67);
            fault(t, four + " ;", 68);
            fault(t, four + "x", 67);
        });
        t.test("Terms 2", "ONE: KIND c NUMBER n NUMBER from NUMBER to NUMBER, perhaps worth NUMBER (1 without).", () -> {
            Run x = withCraft(t).asks("hear c 1 n 2 from 3 to 5;hear c 1 n 2 from 3 to 5 worth 0;send c 0 n 2 from 3 to 6 worth 7");
            x.dues("asking(0, *)", 2, 1, 2, 3, 5, 1).dues("asking(1, *)", 2, 1, 2, 3, 5, 0).dues("asking(2, *)", 1, 0, 2, 3, 6, 7);
            fault(t, "c0n1from0to1", 0);
            fault(t, "track n1c0from0to1", 6);
            fault(t, "track c0from0to1", 8);
            fault(t, "track c0n1to1from0", 10);
            fault(t, "track c0n1from0worth1", 15);
            fault(t, "track c0n1from0to1worth1worth1", 24);
            fault(t, "track worth1c0n1from0to1", 6);
            fault(t, "track track c0n1from0to1", 6);
        });
        t.test("Terms 2", "KIND: track, send, hear, both, far, shared, array.", () -> {
            for (int k = 0; k < 7; k++) {
                withCraft(t).asks(KINDS[k] + " c0n1from0to1").due("asking(0, 0)", k);
                fault(t, KINDS[k].substring(1) + " c0n1from0to1", 0);
                fault(t, KINDS[k] + "s c0n1from0to1", 0);
                fault(t, KINDS[k].toUpperCase() + " c0n1from0to1", 0);
            }
        });
    }

    private static void numbers(Edges t) {
        t.test("Terms 2", "NUMBER: 1 to 4 digits.", () -> {
            Run x = withCraft(t).asks("track c0001n0009from0000to0009worth0999;track c1n1from10to100worth10");
            x.dues("asking(0, *)", 0, 1, 9, 0, 9, 999).dues("asking(1, *)", 0, 1, 1, 10, 100, 10);
            withCraft(t).asks("track c0n1from1234to9999").due("asking(0, 3)", 1234).due("asking(0, 4)", 9999);
            fault(t, "track c00000n1from0to1", 7);
            fault(t, "track c0n00001from0to1", 9);
            fault(t, "track c0n1from00000to1", 14);
            fault(t, "track c0n1from0to00001", 17);
            fault(t, "track c0n1from0to1worth00001", 23);
            fault(t, "track c n1from0to1", 8);
            fault(t, "track c0n1from99999999999999999999to1", 14);
        });
    }

    private static void words(Edges t) {
        t.test("Terms 2", "WORDS (a to z) and NUMBERS are as long as can be", () -> {
            fault(t, "trackc0n1from0to1", 0);
            fault(t, "track cn0n1from0to1", 6);
            fault(t, "track c0nfrom1from0to1", 8);
            fault(t, "track c0n1fromto1", 10);
            fault(t, "zzz", 0);
            fault(t, "trackz c0n1from0to1", 0);
            fault(t, "tracka c0n1from0to1", 0);
            fault(t, " ".repeat(107) + "tra", 107);
            fault(t, " ".repeat(105) + "track", 110);
            fault(t, "aaa", 0);
            fault(t, "track{c0n1from0to1", 5);
            fault(t, "track`c0n1from0to1", 5);
            fault(t, "track c0/n1from0to1", 8);
            fault(t, "track c0:n1from0to1", 8);
            fault(t, "track c0n1from0to1worth12345", 23);
        });
        t.test("Terms 2", "blanks (32) between any two of these and ;", () -> {
            withCraft(t).asks("far c0 n1 from 0 to 1;far c0 n1 from 0 to 1", 2).due("count(3)", 2);
            withCraft(t).asks("far   c   0   n   1   from   0   to   1   worth   5   ;   far c0n1from0to1", 2).due("asking(0, 5)", 5);
            withCraft(t).asks("far c0n1from0to1  ", 1);
            withCraft(t).asks("  far c0n1from0to1", 1);
            fault(t, "far\tc0n1from0to1", 3);
            fault(t, "far" + (char) 0 + "c0n1from0to1", 3);
            fault(t, "far" + (char) 31 + "c0n1from0to1", 3);
            fault(t, "far!c0n1from0to1", 3);
            fault(t, "far" + (char) 160 + "c0n1from0to1", 3);
            fault(t, "far c0n 1 1 from0to1", 10);
        });
        t.test("Terms 2", "(none needed where a WORD and a NUMBER meet)", () -> {
            Run x = withCraft(t).asks("far c1n9from12to34worth56;far c0n1from0to1", 2);
            x.dues("asking(0, *)", 4, 1, 9, 12, 34, 56);
            fault(t, "farc1n9from12to34", 0);
            fault(t, "far c1n9from12to34worth5far", 24);
        });
    }

    private static void faultsOfPlace(Edges t) {
        t.test("Terms 2", FAULT, () -> {
            fault(t, "7", 0);
            fault(t, "  track track", 8);
            fault(t, "track 0", 6);
            fault(t, "track c c", 8);
            fault(t, "track c0 n n1", 11);
            fault(t, "track c0 n1 from;", 16);
            fault(t, "track c0 n1 from 0 to 1 2", 24);
            fault(t, "track c0 n1 from 0 to 1 n", 24);
            fault(t, "far c0n1from0to1;far c0n1from0to1;7", 34);
        });
        t.test("Terms 2", "(how many bytes there are, if it ends too early)", () -> {
            String one = "track c0 n1 from 0 to 1 worth 5";
            for (int end : new int[] {5, 7, 8, 10, 11, 16, 18, 21, 29}) {
                fault(t, one.substring(0, end), end);
                fault(t, one.substring(0, end) + "  ", end + 2);
            }
            fault(t, "", 0);
            fault(t, " ", 1);
            fault(t, one + ";", 32);
            fault(t, " ".repeat(110), 110);
        });
        t.test("Terms 2", "also of a WORD that is none of these", () -> {
            fault(t, "tracks c0n1from0to1", 0);
            fault(t, "trac c0n1from0to1", 0);
            fault(t, "track d0n1from0to1", 6);
            fault(t, "track cc0n1from0to1", 6);
            fault(t, "track c0m1from0to1", 8);
            fault(t, "track c0n1fro0to1", 10);
            fault(t, "track c0n1from0too1", 15);
            fault(t, "track c0n1from0to1 worths5", 19);
            fault(t, "track c0n1from0to1;hears", 19);
        });
        t.test("Terms 2", "a byte that begins none", () -> {
            for (int b : new int[] {0, 9, 10, 31, 33, 47, 58, 60, 64, 65, 90, 91, 96, 123, 127, 128, 176, 200, 225, 255}) {
                fault(t, (char) b + "", 0);
                fault(t, "far c0n1from0to1" + (char) b, 16);
            }
        });
    }

    private static void faultsOfNumbers(Edges t) {
        t.test("Terms 2", "a NUMBER of more than 4 digits", () -> {
            fault(t, "track c 00000 n1from0to1", 8);
            fault(t, "track c0n1from10000to10009", 14);
            fault(t, "track c0n1from0to10000", 17);
            fault(t, "12345", 0);
            withCraft(t).asks("track c0n1from0to9999", 1);
        });
        t.test("Terms 2", "a CRAFT that isn't there", () -> {
            withCraft(t).asks("far c1n1from0to1", 1);
            fault(t, "far c2n1from0to1", 5);
            fault(t, "far c 9999 n1from0to1", 6);
            fault(t, "far c2n0from0to0", 5);
            t.run().asks("far c0n1from0to1", -6).due("count(3)", 0);
            t.run().asks("far c", -6).asks("far c0", -6).asks("far", -4);
            Run all = t.run();
            for (int c = 0; c < 8; c++) {
                all.go("craft(1, 0, 10)");
            }
            all.asks("far c7n1from0to1", 1).asks("far c8n1from0to1", -6);
        });
        t.test("Terms 2", "n that isn't 1 to 9", () -> {
            withCraft(t).asks("far c0n1from0to9999;far c0n9from0to9999", 2).dues("asking(*, 2)", 1, 9);
            fault(t, "far c0n0from0to9999", 7);
            fault(t, "far c0n10from0to9999", 7);
            fault(t, "far c0 n 9999 from0to9999", 9);
        });
        t.test("Terms 2", "worth above 999", () -> {
            withCraft(t).asks("far c0n1from0to1worth999", 1).due("asking(0, 5)", 999);
            fault(t, "far c0n1from0to1worth1000", 21);
            fault(t, "far c0n1from0to1 worth 9999", 23);
            withCraft(t).asks("far c0n1from0to1worth0", 1).due("asking(0, 5)", 0);
        });
        t.test("Terms 2", "to that is not N HOURS behind from at least (each at its NUMBER).", () -> {
            withCraft(t).asks("far c0n1from0to1;far c0n9from0to9;far c0n5from100to105;far c0n9from9990to9999", 4);
            fault(t, "far c0n1from0to0", 15);
            fault(t, "far c0n9from0to8", 15);
            fault(t, "far c0 n5 from 100 to 104", 22);
            fault(t, "far c0n5from100to0", 17);
            fault(t, "far c0n9from9991to9999", 18);
            fault(t, "far c0n1from9999to9999", 18);
        });
    }

    private static void tape(Edges t) {
        t.test("Terms 2", "THE TAPE has bytes, at most 110.", () -> {
            Run x = withCraft(t).feed(" ".repeat(108)).due("feed(0, 3)", Due.FULL).due("feed(0, 2)", 110);
            x.due("feed(0, 1)", Due.FULL).due("count(10)", 110).due("wipe()", 110).due("feed(0, 1)", 1);
            withCraft(t).asks("far c0n1from0to1" + " ".repeat(94), 1);
        });
    }
}
