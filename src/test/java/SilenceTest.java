/** Promises 33 to 38: tables for silence, a search by odds. */
public final class SilenceTest {
    private static final Due T = new Due();

    public static void main(String[] args) {
        table();
        silence();
        ever();
        cell();
        seek();
        stop();
        T.end();
    }

    private static void table() {
        FarDishes x = new FarDishes();
        T.due("no craft", x.table(0, 0, 0, true), Due.BEYOND);
        x.craft(1, 0, 10);
        T.due("state 8", x.table(0, 8, 0, true), Due.BEYOND);
        T.due("state -1", x.table(0, -1, 0, true), Due.BEYOND);
        T.due("to 8", x.table(0, 0, 8, true), Due.BEYOND);
        T.due("to -1", x.table(0, 0, -1, true), Due.BEYOND);
        for (int s = 0; s < 8; s++) {
            T.due("itself at first " + s, x.table(0, s, 7 - s, false), s);
            T.due("then " + s, x.table(0, s, s, false), 7 - s);
        }
        T.due("none is heard", x.ever(0), 255);
        x.table(0, 3, 3, true);
        T.due("one is heard", x.ever(0), 255 - 8);
        x.table(0, 3, 3, false);
        T.due("it isn't any more", x.ever(0), 255);
        x.craft(1, 0, 10);
        x.table(0, 1, 2, true);
        T.due("another craft's", x.table(1, 1, 1, false), 1);
    }

    private static void silence() {
        FarDishes x = new FarDishes();
        x.craft(1, 0, 10);
        for (int s = 0; s < 7; s++) {
            x.table(0, s, s + 1, false);
        }
        T.due("never", x.silence(0, 0), Due.NONE);
        x.table(0, 7, 0, true);
        for (int s = 0; s < 8; s++) {
            T.due("from " + s, x.silence(0, s), 7 - s);
        }
        x.table(0, 2, 0, true);
        T.due("the first heard", x.silence(0, 0), 2);
        T.due("a heard one", x.silence(0, 2), 0);
        T.due("state 8", x.silence(0, 8), Due.BEYOND);
        T.due("state -1", x.silence(0, -1), Due.BEYOND);
        T.due("craft 1", x.silence(1, 0), Due.BEYOND);
        T.due("craft -1", x.silence(-1, 0), Due.BEYOND);
    }

    private static void ever() {
        FarDishes x = new FarDishes();
        T.due("no craft", x.ever(0), Due.BEYOND);
        x.craft(1, 0, 10);
        x.table(0, 0, 1, false);
        x.table(0, 1, 2, true);
        x.table(0, 2, 3, false);
        x.table(0, 3, 2, false);
        x.table(0, 4, 0, false);
        T.due("never from 2, 3, 5, 6, 7", x.ever(0), 4 + 8 + 32 + 64 + 128);
        T.due("-1", x.ever(-1), Due.BEYOND);
    }

    private static void cell() {
        FarDishes x = new FarDishes();
        T.due("64", x.cell(64, 0), Due.BEYOND);
        T.due("-1", x.cell(-1, 0), Due.BEYOND);
        T.due("odds 100", x.cell(0, 100), Due.BEYOND);
        T.due("odds -1", x.cell(0, -1), Due.BEYOND);
        T.due("first", x.cell(63, 99), 0);
        T.due("then", x.cell(63, 0), 99);
        T.due("of no odds", x.cell(63, 7), 0);
        T.due("one is left", x.count(12), 1);
        T.due("look", x.seek(), 63);
        T.due("none is left", x.count(12), 0);
        T.due("what they were", x.cell(63, 8), 7);
        T.due("it wasn't looked into then", x.count(12), 1);
        T.due("look again", x.seek(), 63);
    }

    private static void seek() {
        FarDishes x = new FarDishes();
        T.due("none", x.seek(), Due.NONE);
        x.cell(9, 5);
        x.cell(3, 5);
        x.cell(40, 6);
        x.cell(63, 1);
        x.cell(0, 0);
        T.due("greatest", x.seek(), 40);
        T.due("least of like ones", x.seek(), 3);
        T.due("the other", x.seek(), 9);
        T.due("last", x.seek(), 63);
        x.cell(0, 4);
        T.due("one counts again", x.count(12), 1);
        T.due("cell 0", x.seek(), 0);
        T.due("none with odds above 0", x.seek(), Due.NONE);
    }

    private static void stop() {
        FarDishes x = new FarDishes();
        T.due("v 0", x.stop(0), Due.BEYOND);
        T.due("v 101", x.stop(101), Due.BEYOND);
        T.due("beyond ahead of none", x.stop(-1), Due.BEYOND);
        T.due("none", x.stop(50), Due.NONE);
        x.cell(0, 20);
        x.cell(1, 30);
        x.cell(2, 50);
        T.due("one of a hundred", x.stop(1), 1);
        T.due("half", x.stop(50), 1);
        T.due("just above half", x.stop(51), 2);
        T.due("80", x.stop(80), 2);
        T.due("81", x.stop(81), 3);
        T.due("all", x.stop(100), 3);
        T.due("nothing was looked into", x.seek(), 2);
        T.due("of what is left: 60", x.stop(60), 1);
        T.due("of what is left: 61", x.stop(61), 2);
        x.seek();
        x.seek();
        T.due("all looked into", x.stop(1), Due.NONE);
        for (int i = 0; i < 64; i++) {
            x.cell(i, 99);
        }
        T.due("all alike", x.stop(100), 64);
        T.due("half of these", x.stop(50), 32);
    }
}
