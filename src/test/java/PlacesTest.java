/** Promises 2 to 11: places, dishes, craft. */
public final class PlacesTest {
    private static final Due T = new Due();

    public static void main(String[] args) {
        rain();
        dish();
        mend();
        dishIs();
        craft();
        craftIs();
        rises();
        up();
        rise();
        link();
        T.end();
    }

    private static void rain() {
        FarDishes x = new FarDishes();
        T.due("rain first", x.rain(2, 13, 9), 0);
        T.due("rain again", x.rain(2, 13, 4), 9);
        T.due("rain of another place", x.rain(1, 13, 1), 0);
        T.due("rain on another day", x.rain(2, 12, 1), 0);
        T.due("rain none", x.rain(2, 13, 0), 4);
        T.due("rain place 3", x.rain(3, 0, 0), Due.BEYOND);
        T.due("rain place -1", x.rain(-1, 0, 0), Due.BEYOND);
        T.due("rain rest 14", x.rain(0, 14, 0), Due.BEYOND);
        T.due("rain rest -1", x.rain(0, -1, 0), Due.BEYOND);
        T.due("rain 10", x.rain(0, 0, 10), Due.BEYOND);
        T.due("rain -1", x.rain(0, 0, -1), Due.BEYOND);
        T.due("rain wrong changes nothing", x.rain(0, 0, 0), 0);
    }

    private static void dish() {
        FarDishes x = new FarDishes();
        T.due("dish size 0", x.dish(0, 0, 0), Due.BEYOND);
        T.due("dish size 10", x.dish(0, 10, 0), Due.BEYOND);
        T.due("dish place -1", x.dish(-1, 1, 0), Due.BEYOND);
        T.due("dish place 3", x.dish(3, 1, 0), Due.BEYOND);
        T.due("dish turn -1", x.dish(0, 1, -1), Due.BEYOND);
        T.due("dish turn 4", x.dish(0, 1, 4), Due.BEYOND);
        for (int i = 0; i < 6; i++) {
            T.due("dish " + i, x.dish(i % 3, 1 + i, i % 4), i);
        }
        T.due("dish beyond ahead of full", x.dish(3, 1, 0), Due.BEYOND);
        T.due("dish full", x.dish(0, 1, 0), Due.FULL);
        T.due("dishes", x.count(0), 6);
    }

    private static void mend() {
        FarDishes x = new FarDishes();
        T.due("mend none", x.mend(0, true), Due.BEYOND);
        x.dish(0, 1, 0);
        T.due("mend whole", x.mend(0, false), 0);
        T.due("break", x.mend(0, true), 1);
        T.due("break again", x.mend(0, true), 0);
        T.due("broken", x.count(1), 1);
        T.due("mend", x.mend(0, false), 1);
        T.due("mend -1", x.mend(-1, true), Due.BEYOND);
        T.due("mend 1", x.mend(1, true), Due.BEYOND);
    }

    private static void dishIs() {
        FarDishes x = new FarDishes();
        x.dish(2, 9, 3);
        x.craft(1, 0, 10);
        x.rises(0, 2, 0, 24);
        T.due("place", x.dishIs(0, 0), 2);
        T.due("size", x.dishIs(0, 1), 9);
        T.due("turn", x.dishIs(0, 2), 3);
        T.due("whole", x.dishIs(0, 3), 0);
        T.due("runs none", x.dishIs(0, 4), -1);
        Due.asks(x, "track c0 n1 from 9 to 10;track c0 n2 from 0 to 2");
        x.hold();
        T.due("planned is not running", x.dishIs(0, 4), -1);
        x.run(9);
        T.due("not yet", x.dishIs(0, 4), -1);
        x = new FarDishes();
        x.dish(0, 1, 0);
        x.dish(1, 1, 0);
        x.craft(1, 0, 10);
        x.rises(0, 1, 0, 24);
        Due.asks(x, "track c0 n3 from 2 to 9");
        x.hold();
        x.run(3);
        T.due("runs on dish 1", x.dishIs(1, 4), 0);
        T.due("none on dish 0", x.dishIs(0, 4), -1);
        x.run(2);
        T.due("done", x.dishIs(1, 4), -1);
        x.mend(1, true);
        T.due("broken", x.dishIs(1, 3), 1);
        T.due("what 5", x.dishIs(0, 5), Due.BEYOND);
        T.due("what -1", x.dishIs(0, -1), Due.BEYOND);
        T.due("no dish", x.dishIs(2, 0), Due.BEYOND);
        T.due("dish -1", x.dishIs(-1, 0), Due.BEYOND);
    }

    private static void craft() {
        FarDishes x = new FarDishes();
        int[][] beyond = {{0, 0, 10}, {10, 0, 10}, {1, -1, 10}, {1, 31, 10}, {1, 0, 9}, {1, 0, 0}, {1, 0, -1},
            {1, 0, -16}, {1, 0, 17}, {1, 0, 19}, {1, 0, 127}, {1, 0, 130}, {1, 0, Integer.MIN_VALUE}};
        for (int[] b : beyond) {
            T.due("craft beyond " + b[0] + " " + b[1] + " " + b[2], x.craft(b[0], b[1], b[2]), Due.BEYOND);
        }
        for (int i = 0; i < 8; i++) {
            T.due("craft " + i, x.craft(1 + i, i, 10 * (i + 1) + i % 7), i);
        }
        T.due("craft beyond ahead of full", x.craft(0, 0, 10), Due.BEYOND);
        T.due("craft full", x.craft(1, 0, 10), Due.FULL);
        T.due("all craft", x.count(2), 8);
    }

    private static void craftIs() {
        FarDishes x = new FarDishes();
        x.craft(9, 30, 126);
        int[] first = {9, 30, 12, 6, 0, 0, 0, 0, 0, 0, 0};
        for (int what = 0; what < first.length; what++) {
            T.due("new craft, what " + what, x.craftIs(0, what), first[what]);
        }
        x.order(0, 5);
        x.run(72);
        int[] later = {9, 30, 12, 6, 12, 12, 18, 0, 0, 6, 1};
        for (int what = 0; what < later.length; what++) {
            T.due("after three days, what " + what, x.craftIs(0, what), later[what]);
        }
        T.due("what 11", x.craftIs(0, 11), Due.BEYOND);
        T.due("what -1", x.craftIs(0, -1), Due.BEYOND);
        T.due("no craft", x.craftIs(1, 0), Due.BEYOND);
        T.due("craft -1", x.craftIs(-1, 0), Due.BEYOND);
    }

    private static void rises() {
        FarDishes x = new FarDishes();
        x.craft(1, 0, 10);
        T.due("rises first", x.rises(0, 0, 23, 24), 0);
        T.due("rises then", x.rises(0, 0, 0, 0), 24);
        T.due("rises last", x.rises(0, 0, 5, 2), 0);
        T.due("rises elsewhere", x.rises(0, 2, 5, 2), 0);
        T.due("no craft", x.rises(1, 0, 0, 0), Due.BEYOND);
        T.due("place 3", x.rises(0, 3, 0, 0), Due.BEYOND);
        T.due("place -1", x.rises(0, -1, 0, 0), Due.BEYOND);
        T.due("clock 24", x.rises(0, 0, 24, 0), Due.BEYOND);
        T.due("clock -1", x.rises(0, 0, -1, 0), Due.BEYOND);
        T.due("n 25", x.rises(0, 0, 0, 25), Due.BEYOND);
        T.due("n -1", x.rises(0, 0, 0, -1), Due.BEYOND);
        T.due("unchanged", x.up(0, 0, 6), 1);
    }

    private static void up() {
        FarDishes x = new FarDishes();
        x.craft(1, 0, 10);
        T.due("not at first", x.up(0, 0, 0), 0);
        x.rises(0, 0, 22, 4);
        int[] isUp = {1, 1, 0, 0};
        for (int h = 0; h < 4; h++) {
            T.due("over midnight " + h, x.up(0, 0, h), isUp[h]);
        }
        T.due("ahead of it", x.up(0, 0, 21), 0);
        T.due("from then", x.up(0, 0, 22), 1);
        T.due("days later", x.up(0, 0, 22 + 24 * 7), 1);
        T.due("at 4000 (clock 16)", x.up(0, 0, 4000), 0);
        x.rises(0, 1, 16, 1);
        T.due("at 4000, elsewhere", x.up(0, 1, 4000), 1);
        T.due("4001", x.up(0, 0, 4001), Due.BEYOND);
        T.due("-1", x.up(0, 0, -1), Due.BEYOND);
        x.rises(0, 2, 0, 1);
        T.due("at place 2", x.up(0, 2, 0), 1);
        T.due("place", x.up(0, 3, 0), Due.BEYOND);
        T.due("place -1", x.up(0, -1, 0), Due.BEYOND);
        T.due("craft", x.up(1, 0, 0), Due.BEYOND);
    }

    private static void rise() {
        FarDishes x = new FarDishes();
        x.craft(1, 0, 10);
        T.due("never up", x.rise(0, 0, 0, 1), Due.NONE);
        x.rises(0, 0, 22, 4);
        T.due("as long as it is up", x.rise(0, 0, 0, 4), 22);
        T.due("longer", x.rise(0, 0, 0, 5), Due.NONE);
        T.due("rest is enough", x.rise(0, 0, 0, 2), 0);
        T.due("rest is too short", x.rise(0, 0, 1, 2), 22);
        T.due("a day later", x.rise(0, 0, 23, 4), 46);
        T.due("from 4000", x.rise(0, 0, 4000, 3), 4006);
        x.rises(0, 1, 7, 24);
        T.due("up all day", x.rise(0, 1, 3, 9), 3);
        x.rises(0, 1, 7, 23);
        T.due("but an hour", x.rise(0, 1, 3, 4), 7);
        T.due("up to that hour", x.rise(0, 1, 3, 3), 3);
        T.due("n 0", x.rise(0, 0, 0, 0), Due.BEYOND);
        T.due("n 10", x.rise(0, 0, 0, 10), Due.BEYOND);
        T.due("4001", x.rise(0, 0, 4001, 1), Due.BEYOND);
        T.due("-1", x.rise(0, 0, -1, 1), Due.BEYOND);
        x.rises(0, 2, 8, 2);
        T.due("at place 2", x.rise(0, 2, 0, 2), 8);
        T.due("place -1", x.rise(0, -1, 0, 1), Due.BEYOND);
        T.due("place 3", x.rise(0, 3, 0, 1), Due.BEYOND);
        T.due("craft 1", x.rise(1, 0, 0, 1), Due.BEYOND);
    }

    private static void link() {
        FarDishes x = new FarDishes();
        x.craft(3, 0, 10);
        x.craft(1, 0, 10);
        x.dish(1, 7, 0);
        x.dish(0, 2, 0);
        x.rain(1, 2, 9);
        T.due("dry", x.link(0, 0, 47), 21);
        T.due("in hour 0", x.link(0, 0, 0), 21);
        T.due("rain", x.link(0, 0, 48), 12);
        T.due("rain till midnight", x.link(0, 0, 71), 12);
        T.due("dry again", x.link(0, 0, 72), 21);
        T.due("14 days later", x.link(0, 0, 24 * 16), 12);
        T.due("not below 0", x.link(1, 0, 48), 0);
        T.due("no rain there", x.link(0, 1, 48), 6);
        x.mend(1, true);
        T.due("broken", x.link(0, 1, 48), 0);
        T.due("4000 (day 166, rest 12)", x.link(0, 0, 4000), 21);
        T.due("4001", x.link(0, 0, 4001), Due.BEYOND);
        T.due("-1", x.link(0, 0, -1), Due.BEYOND);
        T.due("craft", x.link(2, 0, 0), Due.BEYOND);
        T.due("dish", x.link(0, 2, 0), Due.BEYOND);
    }
}
