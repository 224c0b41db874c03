/** Promises 40 to 42: sheets. What stands on one is seen by check where no block is sent, and by judge. */
public final class SheetsTest {
    private static final Due T = new Due();

    public static void main(String[] args) {
        sheet();
        write();
        bits();
        copy();
        overlap();
        T.end();
    }

    /** The place of the first number of a sheet that isn't 0: no block is ever sent. */
    private static int firstNotZero(FarDishes x, int s) {
        return x.check(s);
    }

    private static void sheet() {
        FarDishes x = new FarDishes();
        T.due("missing at first", x.check(3), Due.MISSING);
        T.due("sheet 4", x.sheet(4, 8, 1), Due.BEYOND);
        T.due("sheet -1", x.sheet(-1, 8, 1), Due.BEYOND);
        T.due("bits 7", x.sheet(0, 7, 1), Due.BEYOND);
        T.due("bits 64", x.sheet(0, 64, 1), Due.BEYOND);
        T.due("bits ahead of size", x.sheet(0, 1, -1), Due.BEYOND);
        T.due("n -1", x.sheet(0, 8, -1), Due.SIZE);
        T.due("n 25", x.sheet(0, 8, 25), Due.BEYOND);
        T.due("n -1 of none", x.sheet(0, 0, -1), Due.SIZE);
        T.due("n 25 of none", x.sheet(0, 0, 25), Due.BEYOND);
        T.due("still missing", x.check(0), Due.MISSING);
        T.due("24", x.sheet(3, 32, 24), 24);
        T.due("all 0", firstNotZero(x, 3), 24);
        x.write(3, 5, 1);
        T.due("not all 0", firstNotZero(x, 3), 5);
        T.due("anew", x.sheet(3, 16, 9), 9);
        T.due("all 0 anew", firstNotZero(x, 3), 9);
        T.due("0 numbers", x.sheet(2, 8, 0), 0);
        T.due("isn't missing", x.check(2), 0);
        T.due("no more", x.sheet(3, 0, 0), 0);
        T.due("missing", x.check(3), Due.MISSING);
        T.due("no more, with n", x.sheet(2, 0, 5), 0);
        T.due("missing, too", x.check(2), Due.MISSING);
    }

    private static void write() {
        FarDishes x = new FarDishes();
        T.due("sheet 4", x.write(4, 0, 0), Due.BEYOND);
        T.due("missing ahead of no number", x.write(0, 99, 0), Due.MISSING);
        x.sheet(0, 8, 3);
        T.due("number 3", x.write(0, 3, 1), Due.BEYOND);
        T.due("number -1", x.write(0, -1, 1), Due.BEYOND);
        T.due("nothing was written", firstNotZero(x, 0), 3);
        T.due("write", x.write(0, 2, 7), 1);
        T.due("written", firstNotZero(x, 0), 2);
    }

    private static void bits() {
        int[] bits = {8, 16, 32};
        int[] due = {4, 4, 0};
        for (int b = 0; b < 3; b++) {
            FarDishes x = new FarDishes();
            x.sheet(0, bits[b], 4);
            x.write(0, 0, 1 << 16);
            T.due("2 to the 16th in " + bits[b], firstNotZero(x, 0), due[b]);
            x.sheet(0, bits[b], 4);
            x.write(0, 0, 256);
            T.due("256 in " + bits[b], firstNotZero(x, 0), bits[b] == 8 ? 4 : 0);
            x.write(0, 0, 1 << bits[b] - 1);
            T.due("the highest bit in " + bits[b], firstNotZero(x, 0), 0);
            x.write(0, 0, (1 << bits[b] - 1) * 2 - 1);
            x.craft(1, 0, 10);
            Due.asks(x, "track c0n1from0to1");
            x.sheet(1, bits[b], 1);
            x.copy(0, 0, 1, 0, 1);
            T.due("all bits set are -1 in " + bits[b], x.judge(1), 0);
        }
    }

    private static void copy() {
        FarDishes x = new FarDishes();
        x.sheet(0, 8, 5);
        x.sheet(1, 16, 5);
        x.sheet(2, 8, 3);
        x.write(0, 4, 9);
        T.due("sheet 4", x.copy(4, 0, 0, 0, 1), Due.BEYOND);
        T.due("to sheet -1", x.copy(0, 0, -1, 0, 1), Due.BEYOND);
        T.due("beyond ahead of missing", x.copy(3, 0, 4, 0, 1), Due.BEYOND);
        T.due("from a missing one", x.copy(3, 0, 0, 0, 1), Due.MISSING);
        T.due("to a missing one", x.copy(0, 9, 3, 0, 1), Due.MISSING);
        T.due("kind ahead of beyond", x.copy(0, 9, 1, 0, 1), Due.KIND);
        T.due("from -1", x.copy(0, -1, 2, 0, 1), Due.BEYOND);
        T.due("to -1", x.copy(0, 0, 2, -1, 1), Due.BEYOND);
        T.due("n -1", x.copy(0, 0, 2, 0, -1), Due.BEYOND);
        T.due("too many in the first", x.copy(2, 1, 0, 0, 3), Due.BEYOND);
        T.due("too many in the second", x.copy(0, 0, 2, 1, 3), Due.BEYOND);
        T.due("very many", x.copy(0, Integer.MAX_VALUE, 2, 0, Integer.MAX_VALUE), Due.BEYOND);
        T.due("very far", x.copy(0, Integer.MAX_VALUE, 2, 0, 1), Due.BEYOND);
        T.due("none, behind the end", x.copy(0, 6, 2, 0, 0), Due.BEYOND);
        T.due("none, at the end", x.copy(0, 5, 2, 3, 0), 0);
        T.due("three", x.copy(0, 2, 2, 0, 3), 3);
        T.due("they are there", firstNotZero(x, 2), 2);
        T.due("and where they were", firstNotZero(x, 0), 4);
    }

    private static void overlap() {
        FarDishes x = new FarDishes();
        x.sheet(0, 8, 5);
        x.write(0, 0, 1);
        T.due("onto itself, up", x.copy(0, 0, 0, 1, 4), 4);
        x.write(0, 0, 0);
        T.due("one came", firstNotZero(x, 0), 1);
        x.write(0, 1, 0);
        T.due("but one", firstNotZero(x, 0), 5);
        x.write(0, 4, 1);
        T.due("onto itself, down", x.copy(0, 1, 0, 0, 4), 4);
        T.due("one came down", firstNotZero(x, 0), 3);
    }
}
