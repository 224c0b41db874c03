/** Promises 12 to 17: askings and the texts they come from. */
public final class AskingsTest {
    private static final Due T = new Due();

    public static void main(String[] args) {
        feed();
        wipe();
        texts();
        faults();
        fullAsks();
        asking();
        weights();
        as();
        worth();
        T.end();
    }

    private static FarDishes withCraft() {
        FarDishes x = new FarDishes();
        x.craft(5, 2, 43);
        x.craft(5, 30, 43);
        return x;
    }

    private static void feed() {
        FarDishes x = new FarDishes();
        T.due("n 0", x.feed(1, 0), Due.BEYOND);
        T.due("n 5", x.feed(1, 5), Due.BEYOND);
        T.due("feed 3", x.feed(1, 3), 3);
        for (int i = 1; i <= 26; i++) {
            T.due("feed " + i, x.feed(-1, 4), 3 + 4 * i);
        }
        T.due("107 and 4", x.feed(0, 4), Due.FULL);
        T.due("107 and 2", x.feed(0, 2), 109);
        T.due("109 and 2", x.feed(0, 2), Due.FULL);
        T.due("109 and 1", x.feed(0, 1), 110);
        T.due("110 and 1", x.feed(0, 1), Due.FULL);
        T.due("beyond ahead of full", x.feed(0, 5), Due.BEYOND);
        T.due("bytes", x.count(10), 110);
        x = withCraft();
        x.feed(0x78787374, 2);
        x.feed(0x72616369, 4);
        T.due("the highest first, the lowest ones only", x.asks(), -1);
        Due.feed(x, "tra");
        x.feed('c' << 8 | 'k', 2);
        Due.feed(x, " c0n1from0to1");
        T.due("tracks", x.asks(), 1);
    }

    private static void wipe() {
        FarDishes x = new FarDishes();
        T.due("wipe none", x.wipe(), 0);
        x.feed(0, 3);
        T.due("wipe three", x.wipe(), 3);
        T.due("wiped", x.count(10), 0);
    }

    private static void texts() {
        FarDishes x = withCraft();
        T.due("one", Due.asks(x, "track c 0 n 1 from 0 to 1"), 1);
        T.due("tape is empty", x.count(10), 0);
        T.due("worth 1 without", x.asking(0, 5), 1);
        T.due("no blanks where a word and a number meet", Due.asks(x, "hear c1n9from12to9999worth999"), 1);
        int[] hear = {2, 1, 9, 12, 9999, 999, 0, -1, -1};
        for (int what = 0; what < hear.length; what++) {
            T.due("hear, what " + what, x.asking(1, what), hear[what]);
        }
        T.due("blanks round ;", Due.asks(x, "send c0n1 from 0 to 1   ;   both  c  1  n  2  from  3  to  5"), 2);
        T.due("no blanks round ;", Due.asks(x, "far c0n1 from 0 to 1 worth 0;shared c0 n1 from 0 to 1;array c0 n1 from 0to1"), 3);
        int[] kinds = {0, 2, 1, 3, 4, 5, 6};
        for (int i = 0; i < kinds.length; i++) {
            T.due("kind of " + i, x.asking(i, 0), kinds[i]);
        }
        T.due("numbers with noughts", Due.asks(x, "track c0001 n0009 from 0000 to 0009 worth 0999"), 1);
        T.due("blanks ahead and behind", Due.asks(x, "  track c0 n1 from 0 to 1  "), 1);
        T.due("askings", x.count(3), 9);
    }

    private static void fault(String text, int place) {
        FarDishes x = withCraft();
        T.due("'" + text + "'", Due.asks(x, text), -1 - place);
        T.due("'" + text + "' leaves no tape", x.count(10), 0);
        T.due("'" + text + "' brings no asking", x.count(3), 0);
        T.due("'" + text + "' is no finding", x.status(-1), 0);
    }

    private static void faults() {
        fault("", 0);
        fault("   ", 3);
        fault("tracks c0 n1 from 0 to 1", 0);
        fault("trac c0 n1 from 0 to 1", 0);
        fault("trackz c0 n1 from 0 to 1", 0);
        fault("atrack c0 n1 from 0 to 1", 0);
        fault("track{c0 n1 from 0 to 1", 5);
        fault("track`c0 n1 from 0 to 1", 5);
        fault("track c0:n1 from 0 to 1", 8);
        fault("track c0/n1 from 0 to 1", 8);
        fault("trackc0 n1 from 0 to 1", 0);
        fault("c c0 n1 from 0 to 1", 0);
        fault("worth c0", 0);
        fault("7", 0);
        fault(";", 0);
        fault(" Track", 1);
        fault("track", 5);
        fault("track n1 from 0 to 1", 6);
        fault("track c", 7);
        fault("track c c", 8);
        fault("track c2 n1 from 0 to 1", 7);
        fault("track c0 n", 10);
        fault("track c0 n0 from 0 to 1", 10);
        fault("track c0 n10 from 0 to 20", 10);
        fault("track c0 1", 9);
        fault("track c0 n1", 11);
        fault("track c0 n1 from", 16);
        fault("track c0 n1 from;", 16);
        fault("track c0 n1 from 0", 18);
        fault("track c0 n1 from 0 to", 21);
        fault("track c0 n1 from 0 to ;", 22);
        fault("track c00000 n1 from 0 to 1", 7);
        fault("track c0 n1 from 12345 to 9", 17);
        fault("track c0 n1 from0 to 0", 21);
        fault("track c0 n9 from 5 to 13", 22);
        fault("track c0 n9 from 9995 to 9999", 25);
        fault("track c0 n1 from 0 to 10000", 22);
        fault("track c0 n1 from 0 to 1 worth", 29);
        fault("track c0 n1 from 0 to 1 worth 1000", 30);
        fault("track c0 n1 from 0 to 1 worth 1 worth 1", 32);
        fault("track c0 n1 from 0 to 1 worthy", 24);
        fault("track c0 n1 from 0 to 1 2", 24);
        fault("track c0 n1 from 0 to 1 track", 24);
        fault("track c0 n1 from 0 to 1.", 23);
        fault("track c0 n1 from 0 to 1;", 24);
        fault("track c0 n1 from 0 to 1; ", 25);
        fault("track c0 n1 from 0 to 1;;", 24);
        fault("track c0 n1 from -1 to 1", 17);
        fault("track\tc0", 5);
        fault("track c0 n1 from 0 to 1\u00e9", 23);
        fault("far c0n1from0to1;far c0n1from0to1;far c0n1from0to1;far c0n1from0to1;", 67);
        fault("far c0n1from0to1;far c0n1from0to1;far c0n1from0to1;far c0n1from0to1 ;far c9", 68);
        fault("far c0n1from0to1;far c0n1from0to1;far c2n1from0to1;x", 39);
    }

    private static void fullAsks() {
        FarDishes x = withCraft();
        String four = "far c0n1from0to1;far c0n1from0to1;far c0n1from0to1;far c0n1from0to1";
        T.due("4", Due.asks(x, four), 4);
        T.due("8", Due.asks(x, four), 4);
        T.due("12", Due.asks(x, four), 4);
        T.due("no room for all", Due.asks(x, four), Due.FULL);
        T.due("the tape stays", x.count(10), four.length());
        T.due("none came", x.count(3), 12);
        T.due("full again", x.asks(), Due.FULL);
        x.wipe();
        T.due("14", Due.asks(x, "far c0n1from0to1;far c0n1from0to1"), 2);
        T.due("full", Due.asks(x, "far c0n1from0to1"), Due.FULL);
        x.feed(';', 1);
        T.due("a fault is told ahead of full", x.asks(), -18);
        T.due("status of full", x.status(1), 3);
    }

    private static void asking() {
        FarDishes x = withCraft();
        x.dish(0, 9, 0);
        x.rises(0, 0, 3, 4);
        Due.asks(x, "both c0 n2 from 1 to 7 worth 5");
        x.hold();
        int[] planned = {3, 0, 2, 1, 7, 5, 1, 0, 3, 7};
        for (int what = 0; what < planned.length; what++) {
            T.due("planned, what " + what, x.asking(0, what), planned[what]);
        }
        x.run(4);
        T.due("runs", x.asking(0, 6), 2);
        x.run(1);
        T.due("done", x.asking(0, 6), 3);
        T.due("done on", x.asking(0, 7), 0);
        T.due("done from", x.asking(0, 8), 3);
        T.due("what 10", x.asking(0, 10), Due.BEYOND);
        T.due("what -1", x.asking(0, -1), Due.BEYOND);
        T.due("no asking", x.asking(1, 0), Due.BEYOND);
        T.due("asking -1", x.asking(-1, 0), Due.BEYOND);
    }

    private static void weights() {
        FarDishes x = withCraft();
        Due.asks(x, "track c1n3from0to9worth7;send c1n3from0to9worth7;hear c1n3from0to9worth7;both c1n3from0to9worth7");
        Due.asks(x, "far c1n3from0to9worth7;shared c1n3from0to9worth7;array c1n3from0to9worth7;both c0n1from0to1worth0");
        int[] due = {7, 7, 13, 10, 40, 18, 26, 0};
        for (int i = 0; i < due.length; i++) {
            T.due("weight of " + i, x.asking(i, 9), due[i]);
        }
        Due.asks(x, "both c0n1from0to1;far c0n1from0to1worth999");
        T.due("both of 1 is cut", x.asking(8, 9), 1);
        T.due("far of 999", x.asking(9, 9), 1500);
    }

    private static void as() {
        FarDishes x = withCraft();
        Due.asks(x, "track c0n1from0to1;send c0n1from0to1;hear c0n1from0to1;both c0n1from0to1");
        Due.asks(x, "far c0n1from0to1;shared c0n1from0to1;array c0n1from0to1");
        String[] under = {"0", "01", "02", "03", "034", "025", "026"};
        for (int i = 0; i < 7; i++) {
            for (int kind = 0; kind < 7; kind++) {
                int due = under[i].indexOf('0' + kind) >= 0 ? i : Due.KIND;
                T.due("as(" + i + ", " + kind + ")", x.as(i, kind), due);
            }
        }
        T.due("kind 7", x.as(0, 7), Due.BEYOND);
        T.due("kind -1", x.as(0, -1), Due.BEYOND);
        T.due("asking 7", x.as(7, 0), Due.BEYOND);
        T.due("asking -1", x.as(-1, 0), Due.BEYOND);
    }

    private static void worth() {
        FarDishes x = withCraft();
        x.dish(0, 9, 0);
        x.rises(0, 0, 0, 24);
        Due.asks(x, "track c0 n2 from 1 to 9 worth 5");
        T.due("worth 1000", x.worth(0, 1000), Due.BEYOND);
        T.due("worth -1", x.worth(0, -1), Due.BEYOND);
        T.due("asking 1", x.worth(1, 1), Due.BEYOND);
        T.due("worth", x.worth(0, 999), 5);
        T.due("was", x.worth(0, 0), 999);
        T.due("was 0", x.worth(0, 4), 0);
        x.hold();
        T.due("planned", x.worth(0, 6), Due.STATE);
        T.due("beyond ahead of state", x.worth(0, 1000), Due.BEYOND);
        x.run(2);
        T.due("runs", x.worth(0, 6), Due.STATE);
        x.mend(0, true);
        x.run(1);
        T.due("broken", x.asking(0, 6), 4);
        T.due("broken on", x.asking(0, 7), 0);
        T.due("broken began", x.asking(0, 8), 1);
        T.due("broken waits again", x.worth(0, 7), 4);
        T.due("waits", x.asking(0, 6), 0);
        T.due("no dish yet", x.asking(0, 7), -1);
        T.due("no hour yet", x.asking(0, 8), -1);
        x.mend(0, false);
        x.hold();
        x.run(5);
        T.due("done", x.asking(0, 6), 3);
        T.due("done stays", x.worth(0, 6), Due.STATE);
    }
}
