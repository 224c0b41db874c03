import java.lang.reflect.InvocationTargetException;
import java.lang.reflect.Method;
import java.util.ArrayList;
import java.util.List;
import java.util.Random;

/** Calls drawn at random, mostly ones that make sense, and their answers by any class with the document's face. */
final class Calls {
    static final class Call {
        final String name;
        final int[] args;

        Call(String name, int... args) {
            this.name = name;
            this.args = args;
        }

        @Override
        public String toString() {
            StringBuilder s = new StringBuilder(name).append('(');
            for (int i = 0; i < args.length; i++) {
                s.append(i == 0 ? "" : ", ").append(args[i]);
            }
            return s.append(')').toString();
        }
    }

    private static final String[] KINDS = {"track", "send", "hear", "both", "far", "shared", "array"};

    private final Random r;
    private final List<Call> calls = new ArrayList<>();
    private final int focus;
    private int hour = 0;
    private int dishes = 0;
    private int craft = 0;
    private int askings = 0;

    private Calls(long seed) {
        r = new Random(seed);
        focus = r.nextInt(3);
    }

    /** The answer of a call; the last argument of mend and table is a truth. */
    static int answer(Object x, Call call) {
        for (Method m : x.getClass().getMethods()) {
            if (m.getName().equals(call.name) && m.getParameterCount() == call.args.length) {
                Object[] args = new Object[call.args.length];
                for (int i = 0; i < args.length; i++) {
                    args[i] = m.getParameterTypes()[i] == boolean.class ? (Object) (call.args[i] != 0) : call.args[i];
                }
                try {
                    return (Integer) m.invoke(x, args);
                } catch (InvocationTargetException e) {
                    throw new IllegalStateException("" + call, e.getCause());
                } catch (IllegalAccessException e) {
                    throw new IllegalStateException(e);
                }
            }
        }
        throw new IllegalStateException("no call " + call);
    }

    /** A run of calls; wild ones have any numbers as arguments. */
    static List<Call> run(long seed, int size, boolean wild) {
        Calls c = new Calls(seed);
        c.begin();
        while (c.calls.size() < size) {
            if (wild && c.r.nextInt(3) == 0) {
                c.wild();
            } else {
                c.next();
            }
        }
        return c.calls.subList(0, size);
    }

    private void add(String name, int... args) {
        calls.add(new Call(name, args));
    }

    private int upTo(int most) {
        return r.nextInt(most + 1);
    }

    /** Mostly one that is there, now and then one that isn't. */
    private int near(int most) {
        int far = r.nextInt(40);
        return far == 0 ? -1 : far == 1 ? most + 1 : r.nextInt(most + 1);
    }

    private int someDish() {
        return near(Math.max(0, dishes - 1));
    }

    private int someCraft() {
        return near(craft - 1);
    }

    private int someAsking() {
        return near(Math.max(0, Math.min(14, askings) - 1));
    }

    private void begin() {
        dishes = upTo(6);
        for (int i = 0; i < dishes; i++) {
            add("dish", upTo(2), 1 + upTo(8), upTo(3));
        }
        craft = 1 + upTo(3);
        for (int i = 0; i < craft; i++) {
            add("craft", 1 + upTo(8), r.nextBoolean() ? upTo(3) : upTo(30), 10 * (1 + upTo(11)) + upTo(6));
            for (int p = 0; p < 3; p++) {
                add("rises", i, p, upTo(23), r.nextInt(3) == 0 ? 24 : upTo(24));
            }
        }
    }

    private String one() {
        int n = 1 + upTo(5);
        int from = Math.max(0, hour + upTo(focus == 0 ? 10 : 30) - 3);
        int to = from + n + (r.nextInt(3) == 0 ? 0 : upTo(focus == 0 ? 15 : 40));
        String blank = r.nextBoolean() ? " " : "";
        String s = KINDS[upTo(6)] + " c" + blank + upTo(craft - 1) + blank + "n" + blank + n + " from" + blank + from + " to"
            + blank + to;
        return r.nextInt(4) == 0 ? s : s + blank + "worth" + blank + (r.nextInt(4) == 0 ? upTo(999) : upTo(12));
    }

    private void text() {
        StringBuilder s = new StringBuilder(one());
        int more = upTo(3);
        for (int i = 0; i < more && s.length() < 80; i++) {
            s.append(r.nextBoolean() ? ";" : " ; ").append(one());
        }
        if (r.nextInt(4) == 0) {
            int at = upTo(s.length() - 1);
            String signs = " ;;0123456789abcnofrmtwh#\u00ff";
            char c = signs.charAt(upTo(signs.length() - 1));
            switch (upTo(3)) {
                case 0: s.setCharAt(at, c); break;
                case 1: s.insert(at, c); break;
                case 2: s.deleteCharAt(at); break;
                default: s.setLength(at); break;
            }
        }
        for (int i = 0; i < s.length(); i += 4) {
            int n = Math.min(4, s.length() - i);
            int bytes = upTo(99);
            for (int k = 0; k < n; k++) {
                bytes = bytes << 8 | s.charAt(i + k);
            }
            add("feed", bytes, n);
        }
        add("asks");
        askings += 1 + more;
    }

    /** Focus 0: plans; 1: hours and orders; 2: a little of all. */
    private void next() {
        int which = upTo(19);
        if (which < 4 && focus == 0) {
            plans();
        } else if (which < 4 && focus == 1) {
            go();
            blocks();
            orders();
        } else {
            anyOf(upTo(13));
        }
    }

    private void anyOf(int which) {
        switch (which) {
            case 0: texts(); break;
            case 1: hold(); break;
            case 2: go(); break;
            case 3: case 4: plans(); break;
            case 5: places(); break;
            case 6: orders(); break;
            case 7: blocks(); break;
            case 8: case 9: tells(); break;
            case 10: silence(); break;
            case 11: search(); break;
            case 12: sheets(); break;
            default: images(); break;
        }
    }

    private void texts() {
        if (askings < 14 || r.nextInt(6) == 0) {
            text();
        }
    }

    private void hold() {
        if (focus != 0 || r.nextInt(4) == 0) {
            add("hold");
        }
    }

    private void go() {
        int n = focus != 0 && r.nextInt(4) == 0 ? 1 + upTo(30) : 1 + upTo(2);
        hour = Math.min(1990, hour + n);
        add("run", n);
    }

    private void plans() {
        switch (upTo(9)) {
            case 0: add("plan", -1); break;
            case 1: add("plan", someAsking()); break;
            case 2: add("begins", someAsking()); break;
            case 3: add("without", someAsking()); break;
            case 4: add("takes", someAsking(), r.nextBoolean() ? near(20) : near(999)); break;
            case 5: case 6: add("bars", someAsking(), someAsking()); break;
            case 7: add("drop", someAsking()); break;
            case 8: add("worth", someAsking(), r.nextBoolean() ? near(20) : near(999)); break;
            default: judge(); break;
        }
    }

    private void judge() {
        int n = r.nextInt(3) == 0 ? upTo(5) : Math.min(5, askings);
        add("sheet", 0, 8 << upTo(2), n);
        for (int i = 0; i < n; i++) {
            add("write", 0, i, r.nextInt(3) == 0 ? -1 : someDish());
        }
        add("judge", near(3) == 3 ? 3 : 0);
    }

    private void places() {
        switch (upTo(5)) {
            case 0: add("rain", near(2), near(13), near(9)); break;
            case 1: case 2: add("mend", someDish(), r.nextInt(3) == 0 ? 1 : 0); break;
            case 3: add("rises", someCraft(), near(2), near(23), near(24)); break;
            case 4: add(r.nextBoolean() ? "dish" : "craft", near(3), near(8), near(60)); break;
            default: add("link", someCraft(), someDish(), upTo(4000)); break;
        }
    }

    private void orders() {
        switch (upTo(2)) {
            case 0: add("order", someCraft(), hour + near(60)); break;
            case 1: add("again", someCraft(), near(3)); break;
            default: add("orderIs", someCraft(), near(5), near(4)); break;
        }
    }

    private void blocks() {
        switch (upTo(3)) {
            case 0: add("block", someCraft(), near(8), near(2)); break;
            case 1: add("name", someCraft(), near(40)); break;
            case 2: add("over", someCraft(), 1 + near(8)); break;
            default: record(); break;
        }
    }

    private void record() {
        int n = upTo(9);
        add("sheet", 1, 8 << upTo(2), n);
        for (int i = 0; i < n; i++) {
            if (r.nextInt(4) == 0) {
                add("write", 1, i, upTo(4));
            }
        }
        add("check", 1);
    }

    private void tells() {
        switch (upTo(6)) {
            case 0: add("dishIs", someDish(), near(4)); break;
            case 1: case 2: add("craftIs", someCraft(), near(10)); break;
            case 3: case 4: add("asking", someAsking(), near(9)); break;
            case 5: add("count", near(12)); break;
            default: add("status", near(7) - 1); break;
        }
        if (r.nextInt(4) == 0) {
            add("up", someCraft(), near(2), upTo(4000));
            add("rise", someCraft(), near(2), upTo(4000), 1 + near(8));
            add("as", someAsking(), near(6));
        }
    }

    private void silence() {
        switch (upTo(3)) {
            case 0: case 1: add("table", someCraft(), near(7), near(7), r.nextInt(3) == 0 ? 1 : 0); break;
            case 2: add("silence", someCraft(), near(7)); break;
            default: add("ever", someCraft()); break;
        }
    }

    private void search() {
        switch (upTo(3)) {
            case 0: case 1: add("cell", near(63), r.nextBoolean() ? near(3) : near(99)); break;
            case 2: add("seek"); break;
            default: add("stop", near(100)); break;
        }
    }

    private void sheets() {
        switch (upTo(2)) {
            case 0: add("sheet", near(3), near(4) == 4 ? 0 : 8 << upTo(2), near(24)); break;
            case 1: add("write", near(3), near(23), r.nextInt()); break;
            default: add("copy", near(3), near(9), near(3), near(9), near(9)); break;
        }
    }

    private void images() {
        switch (upTo(9)) {
            case 0: case 1: case 2: add("image"); break;
            case 3: case 4: add("undo"); break;
            case 5: add("tear"); break;
            case 6: add("wipe"); break;
            default: add("count", near(12)); break;
        }
    }

    private static final String[] FACE = {"rain3", "dish3", "mend2", "dishIs2", "craft3", "craftIs2", "rises4", "up3",
        "rise4", "link3", "feed2", "wipe0", "asks0", "asking2", "as2", "worth2", "plan1", "begins1", "without1",
        "takes2", "bars2", "judge1", "hold0", "drop1", "run1", "block3", "name2", "over2", "order2", "again2",
        "orderIs3", "table4", "silence2", "ever1", "cell2", "seek0", "stop1", "check1", "sheet3", "write3", "copy5",
        "image0", "undo0", "tear0", "count1", "status1"};
    private static final int[] EDGES = {Integer.MIN_VALUE, Integer.MIN_VALUE + 1, -1000001, -2, -1, 0, 1, 2, 3, 4, 5, 6,
        7, 8, 9, 10, 12, 13, 14, 16, 23, 24, 25, 32, 63, 64, 99, 100, 101, 110, 126, 127, 999, 1000, 2000, 2001, 4000,
        4001, Integer.MAX_VALUE - 1, Integer.MAX_VALUE};

    private void wild() {
        String f = FACE[upTo(FACE.length - 1)];
        int[] args = new int[f.charAt(f.length() - 1) - '0'];
        for (int i = 0; i < args.length; i++) {
            args[i] = r.nextInt(8) == 0 ? r.nextInt() : EDGES[upTo(EDGES.length - 1)];
        }
        add(f.substring(0, f.length() - 1), args);
    }
}
