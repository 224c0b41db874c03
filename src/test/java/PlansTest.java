/** Promises 18 to 25: plans. */
public final class PlansTest {
    private static final Due T = new Due();

    public static void main(String[] args) {
        plan();
        rulesOfRows();
        onlyFiveAreLookedAt();
        begins();
        without();
        takes();
        bars();
        judge();
        hold();
        drop();
        T.end();
    }

    /** Craft 0 (FAR 2) is up all day at place 0 alone, craft 1 (FAR 0) at place 0 from 5 on for 3 hours. */
    private static FarDishes withDish(int turn) {
        FarDishes x = new FarDishes();
        x.dish(0, 9, turn);
        x.craft(5, 2, 43);
        x.craft(5, 0, 43);
        x.rises(0, 0, 0, 24);
        x.rises(1, 0, 5, 3);
        return x;
    }

    private static void plan() {
        FarDishes x = new FarDishes();
        T.due("empty plan", x.plan(-1), 0);
        T.due("no asking", x.plan(0), Due.BEYOND);
        T.due("-2", x.plan(-2), Due.BEYOND);
        x = withDish(0);
        Due.asks(x, "track c0n4from0to5worth3;track c0n4from0to5worth4;track c0n1from0to9worth1");
        T.due("the heavier one, and the last", x.plan(-1), 5);
        T.due("none", x.plan(0), -1);
        T.due("its dish", x.plan(1), 0);
        T.due("last", x.plan(2), 0);
        x.mend(0, true);
        T.due("all dishes broken", x.plan(-1), 0);
        T.due("none on a broken one", x.plan(1), -1);
        x.dish(1, 1, 0);
        T.due("not up at another place", x.plan(-1), 0);
        x.dish(0, 1, 0);
        T.due("another dish", x.plan(1), 2);
        T.due("none of these is a finding", x.status(-1), 0);
    }

    private static void rulesOfRows() {
        FarDishes x = withDish(0);
        x.dish(0, 1, 0);
        Due.asks(x, "track c0n1from0to9worth0;track c0n5from0to9worth2;track c0n5from0to9worth2;track c0n9from0to9worth4");
        T.due("most weight", x.plan(-1), 6);
        T.due("worth 0 is left out", x.plan(0), -1);
        T.due("first of like rows", x.plan(1), 0);
        T.due("second of like ones has none", x.plan(2), -1);
        T.due("heaviest on the other dish", x.plan(3), 1);
        x = withDish(0);
        Due.asks(x, "track c0n4from0to9worth2;track c0n5from0to9worth2;track c0n9from0to9worth4");
        T.due("as heavy with two as with one", x.plan(-1), 4);
        T.due("fewest", x.plan(0), -1);
        T.due("fewest, too", x.plan(1), -1);
        T.due("one alone", x.plan(2), 0);
        x = withDish(0);
        Due.asks(x, "track c0n4from0to9worth2;track c0n5from0to9worth2;track c0n9from0to9worth4;track c0n1from0to9worth0");
        T.due("fewest, with one that weighs nothing", x.plan(0), -1);
        T.due("one alone, with one that weighs nothing", x.plan(2), 0);
        x = withDish(0);
        x.dish(0, 1, 0);
        Due.asks(x, "track c0n2from0to9worth2;track c0n2from0to9worth2");
        T.due("both on the first dish", x.plan(0), 0);
        T.due("row 0 0 is ahead of 0 1", x.plan(1), 0);
        x = withDish(0);
        Due.asks(x, "track c0n1from20to30;track c0n1from0to5");
        T.due("by numbers: one with a greater number never goes first", x.plan(-1), 1);
        T.due("first of like ones", x.plan(0), 0);
    }

    private static void onlyFiveAreLookedAt() {
        FarDishes x = withDish(0);
        Due.asks(x, "track c0n1from0to9;track c0n1from0to9;track c0n1from0to9");
        Due.asks(x, "track c0n1from0to9;track c0n1from0to9;track c0n1from0to9worth99");
        T.due("five", x.plan(-1), 5);
        T.due("the sixth isn't looked at", x.plan(5), -1);
        T.due("no finding", x.status(-1), 0);
        T.due("nor does it begin", x.begins(5), Due.NONE);
        T.due("without the sixth", x.without(5), 5);
        T.due("without the first the sixth is looked at", x.without(0), 103);
        T.due("the sixth takes none", x.takes(5, 999), 0);
        T.due("five are held", x.hold(), 5);
        T.due("then the sixth", x.plan(-1), 99);
        T.due("begins behind all", x.begins(5), 5);
    }

    private static void begins() {
        FarDishes x = withDish(2);
        Due.asks(x, "track c0n3from2to30;track c1n2from0to9999;track c0n1from0to9999;track c0n1from0to1");
        T.due("its from, behind none no turn", x.begins(0), 2);
        T.due("end 5 and turn 2: up then for too short", x.begins(1), 29);
        T.due("end 31 and turn 2", x.begins(2), 33);
        T.due("no dish", x.begins(3), Due.NONE);
        T.due("no asking", x.begins(4), Due.BEYOND);
        T.due("-1", x.begins(-1), Due.BEYOND);
        x = withDish(1);
        x.run(10);
        Due.asks(x, "track c0n3from2to30;track c0n3from2to30worth2");
        T.due("not ahead of the open hour", x.begins(0), 10);
        T.due("end 13 and turn 1", x.begins(1), 14);
        x.hold();
        T.due("planned ones have none in the plan", x.begins(0), Due.NONE);
        Due.asks(x, "track c0n2from0to20");
        T.due("behind those that are planned", x.begins(2), 18);
        x.drop(1);
        x.worth(1, 0);
        T.due("behind the one that is planned", x.begins(2), 14);
        x.worth(1, 2);
        x.drop(0);
        x.hold();
        T.due("held again", x.count(5), 3);
        x.drop(2);
        x.run(6);
        T.due("behind one that runs", x.begins(2), 18);
        x.run(1);
        T.due("behind one that is done: no turn", x.begins(2), 17);
        x = withDish(0);
        Due.asks(x, "track c0n4from0to4;track c1n3from0to8");
        T.due("ends just ahead of to", x.begins(0), 0);
        T.due("up just so long", x.begins(1), 5);
        x.run(1);
        T.due("too late", x.begins(0), Due.NONE);
        T.due("late hours", Due.asks(x, "track c0n9from9990to9999"), 1);
        T.due("begins late", x.begins(2), 9990);
    }

    private static void without() {
        FarDishes x = withDish(0);
        Due.asks(x, "track c0n4from0to5worth3;track c0n4from0to5worth4");
        T.due("without the heavier", x.without(1), 3);
        T.due("without the other", x.without(0), 4);
        T.due("no asking", x.without(2), Due.BEYOND);
        T.due("-1", x.without(-1), Due.BEYOND);
        x.hold();
        T.due("planned", x.without(1), Due.STATE);
        T.due("no room left", x.without(0), 0);
        T.due("nothing changes", x.count(3), 2);
    }

    private static void takes() {
        FarDishes x = withDish(0);
        Due.asks(x, "track c0n4from0to5worth3;track c0n4from0to5worth4;track c0n1from6to9worth1");
        T.due("takes the place of 1", x.takes(0, 5), 2);
        T.due("itself, as heavy but later as a row", x.takes(1, 3), 2);
        T.due("as heavy and the first as a row", x.takes(0, 4), 2);
        T.due("less", x.takes(0, 2), 0);
        T.due("itself", x.takes(1, 0), 2);
        T.due("its worth stays", x.asking(0, 5), 3);
        T.due("worth 1000", x.takes(0, 1000), Due.BEYOND);
        T.due("worth -1", x.takes(0, -1), Due.BEYOND);
        T.due("asking 3", x.takes(3, 1), Due.BEYOND);
        x.hold();
        T.due("planned", x.takes(1, 5), Due.STATE);
        T.due("beyond ahead of state", x.takes(1, 1000), Due.BEYOND);
        x = withDish(0);
        Due.asks(x, "track c0n9from0to9worth3;track c0n3from0to9worth2;track c0n3from0to9worth2;track c0n3from0to9worth2");
        T.due("three are in", x.plan(-1), 6);
        x.worth(0, 7);
        T.due("0 is taken out by another", x.takes(1, 8), 1);
        x.worth(0, 3);
        T.due("takes three", x.takes(0, 7), 14);
        T.due("takes three by fewest", x.takes(0, 6), 14);
    }

    private static void bars() {
        FarDishes x = withDish(1);
        Due.asks(x, "track c0n4from0to8worth3;track c0n4from0to8worth4;track c0n3from0to9;track c0n1from0to99worth0");
        T.due("turn bars", x.bars(0, 1), 1);
        T.due("the other way round", x.bars(1, 0), 1);
        T.due("both can", x.bars(0, 2), 0);
        T.due("one that isn't even planned alone", x.bars(0, 3), 0);
        T.due("twice", x.bars(0, 0), Due.BEYOND);
        T.due("no asking", x.bars(0, 4), Due.BEYOND);
        T.due("no asking first", x.bars(-1, 0), Due.BEYOND);
        x.dish(0, 1, 0);
        T.due("two dishes", x.bars(0, 1), 0);
        x.mend(1, true);
        x.hold();
        T.due("one is planned", x.bars(1, 3), Due.STATE);
        T.due("the other is", x.bars(3, 1), Due.STATE);
        T.due("beyond ahead of state", x.bars(1, 1), Due.BEYOND);
        x = withDish(0);
        Due.asks(x, "track c0n1from0to1;track c0n1from0to99;track c0n1from0to99;track c0n1from0to99");
        Due.asks(x, "track c0n1from0to99;track c0n9from0to9;track c0n9from0to9");
        T.due("also those that aren't looked at", x.bars(6, 5), 1);
        T.due("with one that is", x.bars(6, 0), 1);
        x.worth(0, 9);
        T.due("whatever else waits", x.bars(5, 6), 1);
        T.due("those that are", x.bars(0, 1), 0);
    }

    private static void judge() {
        FarDishes x = withDish(0);
        x.dish(0, 1, 0);
        x.dish(1, 1, 0);
        Due.asks(x, "track c0n4from0to5worth3;track c0n4from0to5worth4;hear c0n1from0to9worth1");
        T.due("no sheet", x.judge(4), Due.BEYOND);
        T.due("sheet -1", x.judge(-1), Due.BEYOND);
        T.due("missing", x.judge(0), Due.MISSING);
        x.sheet(0, 8, 2);
        x.write(0, 0, 9);
        T.due("too short, ahead of no dish", x.judge(0), Due.SIZE);
        x.sheet(0, 8, 4);
        T.due("too long", x.judge(0), Due.SIZE);
        x.sheet(0, 8, 3);
        T.due("both on dish 0", x.judge(0), -1);
        T.due("no finding", x.status(-1), 5);
        x.write(0, 1, 1);
        T.due("on two dishes", x.judge(0), 10);
        x.write(0, 0, -1);
        T.due("without the first", x.judge(0), 7);
        x.write(0, 1, -1);
        x.write(0, 2, -1);
        T.due("all none", x.judge(0), 0);
        x.write(0, 2, 2);
        T.due("not up there", x.judge(0), -1);
        x.write(0, 2, 3);
        T.due("no dish", x.judge(0), Due.BEYOND);
        x.write(0, 2, 0);
        x.write(0, 0, 3);
        T.due("no dish at first", x.judge(0), Due.BEYOND);
        x.write(0, 0, -1);
        x.write(0, 2, -2);
        T.due("no dish, too", x.judge(0), Due.BEYOND);
        x.write(0, 2, 1);
        x.mend(1, true);
        T.due("broken", x.judge(0), -1);
        x.hold();
        x.sheet(1, 32, 1);
        T.due("one waits", x.judge(1), -1);
        x.write(1, 0, -1);
        T.due("one waits, none", x.judge(1), 0);
        FarDishes y = new FarDishes();
        y.sheet(3, 16, 0);
        T.due("none waits", y.judge(3), 0);
        x = withDish(0);
        Due.asks(x, "track c0n1from0to9;track c0n1from0to9;track c0n1from0to9");
        Due.asks(x, "track c0n1from0to9;track c0n1from0to9;track c0n1from0to9");
        x.sheet(0, 32, 6);
        T.due("six wait, five are looked at", x.judge(0), Due.SIZE);
        x.sheet(0, 32, 5);
        T.due("five", x.judge(0), 5);
    }

    private static void hold() {
        FarDishes x = new FarDishes();
        T.due("hold nothing", x.hold(), 0);
        x = withDish(1);
        Due.asks(x, "track c0n4from0to5worth3;track c0n4from0to5worth4;track c0n1from0to9worth1");
        T.due("hold two", x.hold(), 2);
        T.due("planned", x.asking(1, 6), 1);
        T.due("its dish", x.asking(1, 7), 0);
        T.due("its hour", x.asking(1, 8), 0);
        T.due("the other's hour", x.asking(2, 8), 5);
        T.due("the first waits", x.asking(0, 6), 0);
        T.due("its dish is none", x.asking(0, 7), -1);
        T.due("nothing more", x.hold(), 0);
        T.due("planned ones", x.count(5), 2);
    }

    private static void drop() {
        FarDishes x = withDish(1);
        Due.asks(x, "track c0n4from3to9worth3");
        T.due("waits", x.drop(0), Due.STATE);
        x.hold();
        T.due("drop", x.drop(0), 0);
        T.due("waits again", x.asking(0, 6), 0);
        T.due("no dish", x.asking(0, 7), -1);
        T.due("no hour", x.asking(0, 8), -1);
        T.due("no asking", x.drop(1), Due.BEYOND);
        T.due("-1", x.drop(-1), Due.BEYOND);
        x.hold();
        x.run(4);
        T.due("runs", x.drop(0), Due.STATE);
        x.run(3);
        T.due("done", x.drop(0), Due.STATE);
    }
}
