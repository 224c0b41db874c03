/** Sections 5 and 6 of the terms: silence, a search, sheets. */
final class Terms5Edges {
    private Terms5Edges() {
    }

    static void all(Edges t) {
        silence(t);
        search(t);
        sheets(t);
    }

    private static void silence(Edges t) {
        t.test("Terms 5", "SILENCE: a CRAFT has a TABLE of 8 STATES: from each one to which it goes in a DAY of silence (0 to 7; itself at"
            + " first)", () -> {
            Run x = t.run().go("craft(1, 0, 10)", "craft(1, 0, 10)");
            for (int s = 0; s < 8; s++) {
                x.due("table(0, " + s + ", " + (7 - s) + ", false)", s).due("table(0, " + s + ", " + s + ", false)", 7 - s);
            }
            x.due("table(0, 8, 0, false)", Due.BEYOND).due("table(0, -1, 0, false)", Due.BEYOND);
            x.due("table(0, 0, 8, false)", Due.BEYOND).due("table(0, 0, -1, false)", Due.BEYOND);
            x.go("table(0, 3, 4, true)").due("table(1, 3, 3, false)", 3).due("table(0, 3, 4, true)", 4);
        });
        t.test("Terms 5", "and which ones are HEARD (bits).", () -> {
            Run x = t.run().go("craft(1, 0, 10)", "craft(1, 0, 10)").due("ever(0)", 255);
            for (int s = 0; s < 8; s++) {
                x.go("table(0, " + s + ", " + s + ", true)").due("ever(0)", 255 - (1 << s)).due("ever(1)", 255);
                x.go("table(0, " + s + ", " + s + ", false)").due("ever(0)", 255);
            }
        });
    }

    private static void search(Edges t) {
        t.test("Terms 5", "A SEARCH: 64 CELLS with ODDS (0 to 99; 0 at first).", () -> {
            Run x = t.run().due("seek()", Due.NONE).due("count(12)", 0);
            for (int i = 0; i < 64; i++) {
                x.due("cell(" + i + ", 99)", 0);
            }
            x.due("count(12)", 64).due("cell(0, 0)", 99).due("cell(63, 0)", 99).due("count(12)", 62);
            x.due("cell(64, 1)", Due.BEYOND).due("cell(-1, 1)", Due.BEYOND);
            x.due("cell(0, 100)", Due.BEYOND).due("cell(0, -1)", Due.BEYOND).due("count(12)", 62);
        });
        t.test("Terms 5", "A LOOK into a CELL finds the craft if it is there; the next LOOK is into the CELL with the greatest ODDS that"
            + " wasn't looked into (of like ones the least).", () -> {
            Run x = t.run().go("cell(63, 99)", "cell(62, 98)", "cell(0, 98)", "cell(31, 1)", "cell(32, 1)", "cell(7, 0)");
            x.due("seek()", 63).due("seek()", 0).due("seek()", 62).due("seek()", 31).due("seek()", 32).due("seek()", Due.NONE);
            x.go("cell(7, 1)", "cell(63, 1)").due("seek()", 7).due("seek()", 63).due("seek()", Due.NONE);
        });
    }

    private static void sheets(Edges t) {
        t.test("Terms 6", "SHEETS 0 to 3 are rows of at most 24 numbers of 8, 16 or 32 bits", () -> {
            Run x = t.run();
            for (int s = 0; s < 4; s++) {
                for (int bits = 8; bits <= 32; bits *= 2) {
                    x.due("sheet(" + s + ", " + bits + ", 24)", 24).due("write(" + s + ", 23, 1)", 1).due("check(" + s + ")", 23);
                    x.due("write(" + s + ", 24, 1)", Due.BEYOND).due("sheet(" + s + ", " + bits + ", 0)", 0);
                    x.due("check(" + s + ")", 0).due("write(" + s + ", 0, 1)", Due.BEYOND);
                    x.due("sheet(" + s + ", " + bits + ", 25)", Due.BEYOND);
                }
            }
            x.due("sheet(4, 8, 1)", Due.BEYOND).due("sheet(-1, 8, 1)", Due.BEYOND);
            for (int bits : new int[] {-8, 1, 7, 9, 15, 17, 24, 31, 33, 64}) {
                x.due("sheet(0, " + bits + ", 1)", Due.BEYOND);
            }
        });
        t.test("Terms 6", "or MISSING (at first).", () -> {
            Run x = t.run();
            for (int s = 0; s < 4; s++) {
                x.due("check(" + s + ")", Due.MISSING).due("judge(" + s + ")", Due.MISSING).due("write(" + s + ", 0, 0)", Due.MISSING);
                x.due("copy(" + s + ", 0, " + s + ", 0, 0)", Due.MISSING).due("sheet(" + s + ", 8, 0)", 0).due("check(" + s + ")", 0);
            }
        });
    }
}
