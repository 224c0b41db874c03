/** Objects that many tests begin with. */
final class Made {
    private Made() {
    }

    /**
     * Much is there. In HOUR 25: DISH 0 (runs ASKING 2), 1 (runs 1), 2 (BROKEN); three CRAFT; ASKINGS 0 done, 1 and 2
     * run, 3 broken, 4 planned, 5 to 10 wait; BLOCKS HELD and SENT; ORDERS of CRAFT 0: 0 late, 1 waits (sent again), 2
     * waits (sent in this HOUR); of CRAFT 1: 0 done, 1 waits (it went); SHEET 3 is MISSING; an image of HOUR 20; seven
     * bytes on THE TAPE; CELL 63 was looked into.
     */
    static Run busy(Edges t) {
        Run x = t.run();
        x.go("dish(0, 9, 1)", "dish(1, 5, 2)", "dish(0, 3, 0)");
        x.go("craft(8, 0, 43)", "craft(9, 2, 126)", "craft(1, 30, 10)");
        x.go("rises(0, 0, 0, 24)", "rises(1, 1, 20, 10)", "rises(1, 0, 5, 8)", "rises(2, 2, 5, 3)");
        x.go("rain(0, 0, 9)", "rain(1, 1, 3)", "rain(2, 13, 1)", "order(0, 0)");
        x.asks("track c0n1from0to1;both c1n9from20to40worth9;hear c0n2from24to26worth9;track c0n1from24to25");
        x.asks("send c0n2from60to70");
        x.due("hold()", 5).go("run(20)", "order(1, 60)", "order(0, 2000)", "image()", "run(4)");
        x.go("again(0, 1)", "order(1, 70)", "mend(2, true)", "run(1)", "order(0, 90)");
        x.asks("track c0n1from0to99worth3;hear c1n2from30to99;far c2n3from0to99worth4");
        x.asks("array c0n9from50to62worth2;track c0n1from0to99;track c0n1from0to99worth99");
        x.go("cell(5, 9)", "cell(6, 9)", "cell(63, 99)", "seek()");
        x.go("table(0, 0, 1, false)", "table(0, 1, 2, false)", "table(0, 2, 2, true)", "table(1, 7, 0, false)");
        x.go("sheet(0, 8, 5)", "write(0, 4, 3)", "sheet(1, 16, 24)", "write(1, 23, 7)", "sheet(2, 8, 3)", "write(2, 0, -1)");
        return x.feed("hear c0");
    }

    /** DISH 0 at PLACE 0 with a TURN; CRAFT 0 (FAR 2) is UP there all day, CRAFT 1 (FAR 0) from CLOCK 5 on for 3 HOURS. */
    static Run plans(Edges t, int turn) {
        Run x = t.run().go("dish(0, 9, " + turn + ")", "craft(5, 2, 43)", "craft(5, 0, 43)");
        return x.go("rises(0, 0, 0, 24)", "rises(1, 0, 5, 3)");
    }

    /** DISH 0 (SIZE 2) and CRAFT 0 (LOUD 4: LINK 8, one BLOCK an HOUR) that is always UP there. */
    static Run oneBlockAnHour(Edges t, int far, int blocks) {
        return t.run().go("dish(0, 2, 0)", "craft(4, " + far + ", " + blocks + ")", "rises(0, 0, 0, 24)");
    }

    /** The same CRAFT in HOUR 24, with its first BLOCKS. */
    static Run nextDay(Edges t, int far, int blocks) {
        return oneBlockAnHour(t, far, blocks).go("run(24)");
    }

    /** A TEXT is asked for and HELD: all of its ONES are planned. */
    static Run held(Run x, String text) {
        return x.asks(text).due("hold()", text.split(";").length);
    }
}
