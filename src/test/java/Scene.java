import java.util.ArrayList;
import java.util.List;
import java.util.Random;

/**
 * Dishes, craft and askings drawn at random, kept as calls and texts: an object can be made of them again and again,
 * with some of the askings that wait left out. Some askings are planned or run ahead of those that wait.
 */
final class Scene {
    private static final String[] KINDS = {"track", "send", "hear", "both", "far", "shared", "array"};
    private static final int CRAFT = 3;

    private final Random r;
    private final List<String> calls = new ArrayList<>();
    private final List<String> ahead = new ArrayList<>();
    private final List<String> waiting = new ArrayList<>();
    private final int hours;
    private final int broken;

    Scene(int seed, int dishes) {
        r = random(seed);
        for (int d = 0; d < dishes; d++) {
            calls.add("dish(" + upTo(2) + ", " + (1 + upTo(8)) + ", " + upTo(3) + ")");
        }
        for (int c = 0; c < CRAFT; c++) {
            calls.add("craft(" + (1 + upTo(8)) + ", " + upTo(5) + ", " + (10 * (1 + upTo(11)) + upTo(6)) + ")");
        }
        // craft 0 is up everywhere: what is asked for it ahead always finds a dish
        for (int p = 0; p < 3; p++) {
            calls.add("rises(0, " + p + ", 0, 24)");
            calls.add("rises(1, " + p + ", " + upTo(23) + ", " + (4 + upTo(20)) + ")");
            calls.add("rises(2, " + p + ", " + upTo(23) + ", " + upTo(9) + ")");
            calls.add("rain(" + p + ", " + upTo(2) + ", " + upTo(9) + ")");
        }
        hours = upTo(60);
        int first = Math.max(0, hours - 8);
        for (int i = upTo(2); i > 0; i--) {
            ahead.add(one(0, first + upTo(10), 999, 1 + upTo(9)));
        }
        broken = dishes > 1 && r.nextInt(3) == 0 ? upTo(dishes - 1) : -1;
        for (int i = 2 + upTo(4); i > 0; i--) {
            waiting.add(one(upTo(CRAFT - 1), Math.max(0, hours - 2 + upTo(10)), upTo(16), r.nextInt(8) == 0 ? 0 : 1 + upTo(7)));
        }
    }

    /** Seeds next to each other would begin with much the same numbers. */
    static Random random(int seed) {
        return new Random(seed * 0x9E3779B97F4A7C15L);
    }

    private int upTo(int most) {
        return r.nextInt(most + 1);
    }

    private String one(int craft, int from, int more, int worth) {
        int n = 1 + upTo(4);
        return KINDS[upTo(6)] + " c" + craft + "n" + n + "from" + from + "to" + (from + n + more) + "worth" + worth;
    }

    int ahead() {
        return ahead.size();
    }

    int waiting() {
        return waiting.size();
    }

    int craft() {
        return CRAFT;
    }

    /** An object with all of the askings. */
    Run make(Edges t) {
        Run x = base(t);
        for (String text : waiting) {
            x.asks(text);
        }
        return x;
    }

    /** An object without one of those that wait. */
    Run makeBut(Edges t, int without) {
        Run x = base(t);
        for (int i = 0; i < waiting.size(); i++) {
            if (i != without) {
                x.asks(waiting.get(i));
            }
        }
        return x;
    }

    /** An object with some of those that wait alone. */
    Run makeOf(Edges t, int... these) {
        Run x = base(t);
        for (int i : these) {
            x.asks(waiting.get(i));
        }
        return x;
    }

    private Run base(Edges t) {
        Run x = t.run().go(calls.toArray(new String[0]));
        for (String text : ahead) {
            x.asks(text);
        }
        x.due("hold()", ahead.size());
        if (hours > 0) {
            x.go("run(" + hours + ")");
        }
        if (broken >= 0) {
            x.go("mend(" + broken + ", true)");
        }
        return x;
    }
}
