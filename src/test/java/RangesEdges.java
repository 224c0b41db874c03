import java.util.Random;

/** Whole ranges of numbers and of texts, where the other tests take their edges. */
final class RangesEdges {
    private static final String[] KINDS = {"track", "send", "hear", "both", "far", "shared", "array"};

    private RangesEdges() {
    }

    static void all(Edges t) {
        craft(t);
        up(t);
        rise(t);
        link(t);
        rain(t);
        weights(t);
        blocks(t);
        sheets(t);
        texts(t);
        cuts(t);
    }

    private static void craft(Edges t) {
        t.test("Promise 6", "A new CRAFT; blocks: 10 * ROOM + RATE: its number.", () -> {
            for (int blocks = -130; blocks <= 140; blocks++) {
                int room = Math.floorDiv(blocks, 10);
                int rate = Math.floorMod(blocks, 10);
                Run x = t.run();
                if (room >= 1 && room <= 12 && rate <= 6) {
                    x.due("craft(1, 0, " + blocks + ")", 0).due("craftIs(0, 2)", room).due("craftIs(0, 3)", rate);
                } else {
                    x.due("craft(1, 0, " + blocks + ")", Due.BEYOND).due("count(2)", 0);
                }
            }
        });
    }

    /** By clocks: whether one that is UP from a clock on for n HOURS is so. */
    private static boolean[] clocks(int clock, int n) {
        boolean[] up = new boolean[24];
        for (int i = 0; i < n; i++) {
            up[(clock + i) % 24] = true;
        }
        return up;
    }

    private static Run risen(Edges t, int clock, int n) {
        return t.run().go("craft(1, 0, 10)", "rises(0, 1, " + clock + ", " + n + ")");
    }

    private static void up(Edges t) {
        t.test("Promise 9", "Whether a CRAFT is UP at a PLACE in an HOUR (0 to 4000): 1, 0.", () -> {
            for (int clock = 0; clock < 24; clock++) {
                for (int n = 0; n <= 24; n++) {
                    boolean[] up = clocks(clock, n);
                    Run x = risen(t, clock, n);
                    for (int hour = 0; hour < 24; hour++) {
                        int later = 24 * (hour + n) + hour;
                        x.due("up(0, 1, " + hour + ")", up[hour] ? 1 : 0).due("up(0, 1, " + later + ")", up[hour] ? 1 : 0);
                    }
                }
            }
        });
    }

    private static int firstUp(boolean[] up, int hour, int n) {
        for (int first = hour; first <= hour + 24; first++) {
            int in = 0;
            while (in < n && up[(first + in) % 24]) {
                in++;
            }
            if (in == n) {
                return first;
            }
        }
        return Due.NONE;
    }

    private static void rise(Edges t) {
        t.test("Promise 10", "The first HOUR from one on (0 to 4000) from which on a CRAFT is UP at a PLACE for n HOURS (1 to 9) in a row.",
            () -> {
            for (int clock = 0; clock < 24; clock++) {
                for (int n = 0; n <= 24; n++) {
                    boolean[] up = clocks(clock, n);
                    Run x = risen(t, clock, n);
                    for (int row = 1; row <= 9; row++) {
                        for (int hour = 0; hour < 24; hour++) {
                            int from = 24 * row * n % 3960 + hour;
                            x.due("rise(0, 1, " + from + ", " + row + ")", firstUp(up, from, row));
                        }
                    }
                }
            }
        });
    }

    private static void link(Edges t) {
        t.test("Terms 1", "LOUD times SIZE, less RAIN there on its DAY, not below 0", () -> {
            for (int loud = 1; loud <= 9; loud++) {
                for (int size = 1; size <= 9; size++) {
                    Run x = t.run().go("dish(2, " + size + ", 0)", "craft(" + loud + ", 0, 10)");
                    for (int rain = 0; rain <= 9; rain++) {
                        x.go("rain(2, 3, " + rain + ")").due("link(0, 0, 80)", Math.max(0, loud * size - rain));
                    }
                }
            }
        });
    }

    private static void rain(Edges t) {
        t.test("Terms 1", "each has RAIN of DAYS modulo 14 (0 to 9; 0 at first).", () -> {
            for (int rest = 0; rest < 14; rest++) {
                Run x = t.run().go("dish(0, 9, 0)", "dish(1, 9, 0)", "craft(9, 0, 10)", "rain(0, " + rest + ", 5)");
                for (int day = 0; day <= 166; day++) {
                    int want = day % 14 == rest ? 76 : 81;
                    x.due("link(0, 0, " + 24 * day + ")", want).due("link(0, 0, " + Math.min(4000, 24 * day + 23) + ")", want);
                }
                x.due("link(0, 1, " + 24 * rest + ")", 81);
            }
        });
    }

    private static int weight(int kind, int n, int worth, int far) {
        int[] weights = {worth, worth, worth + 2 * n, worth * 3 / 2, worth * 3 / 2 + far, worth + 2 * n + 5, 2 * worth + 4 * n};
        return weights[kind];
    }

    private static void weights(Edges t) {
        t.test("Terms 2", "WEIGHT of an ASKING: its WORTH; of HEAR 2 more for each HOUR; of SHARED 5 more than that; of ARRAY twice that of HEAR;"
            + " of BOTH half more than WORTH (cut); of FAR that of BOTH and FAR of its CRAFT.", () -> {
            for (int kind = 0; kind < 7; kind++) {
                for (int n = 1; n <= 9; n++) {
                    int far = 3 * n + kind % 4;
                    Run x = t.run().go("dish(0, 1, 0)", "craft(1, " + far + ", 10)", "rises(0, 0, 0, 24)");
                    x.asks(KINDS[kind] + " c0n" + n + "from0to99worth0").due("asking(0, 9)", weight(kind, n, 0, far));
                    for (int worth = 1; worth <= 999; worth += worth < 30 ? 1 : 57) {
                        int want = weight(kind, n, worth, far);
                        x.go("worth(0, " + worth + ")").due("asking(0, 9)", want).due("plan(-1)", want);
                    }
                }
            }
        });
    }

    private static void blocks(Edges t) {
        t.test("Terms 4", "it has at most ROOM of them", () -> {
            for (int room = 1; room <= 12; room++) {
                for (int rate = 0; rate <= 6; rate++) {
                    Run x = t.run().go("craft(1, 0, " + (10 * room + rate) + ")");
                    for (int day = 1; day <= 5; day++) {
                        int made = day * rate;
                        int stay = Math.min(room, made);
                        x.go("run(24)").due("craftIs(0, 4)", stay).due("craftIs(0, 5)", stay).due("craftIs(0, 6)", made);
                        x.due("craftIs(0, 9)", made - stay).due("craftIs(0, 8)", 0).due("count(11)", stay);
                        x.due("block(0, 0, 0)", stay == 0 ? Due.NONE : made - stay).due("block(0, " + stay + ", 0)", Due.NONE);
                    }
                }
            }
        });
    }

    private static void sheets(Edges t) {
        t.test("Promise 40", "A sheet has n numbers, all 0, of 8, 16 or 32 bits; bits 0: it is MISSING: n (0).", () -> {
            for (int bits = -8; bits <= 64; bits++) {
                boolean good = bits == 0 || bits == 8 || bits == 16 || bits == 32;
                for (int n = -2; n <= 26; n++) {
                    int want = !good || n > 24 ? Due.BEYOND : n < 0 ? Due.SIZE : bits == 0 ? 0 : n;
                    boolean there = want >= 0 && bits != 0;
                    Run x = t.run().due("sheet(1, " + bits + ", " + n + ")", want).due("check(1)", there ? n : Due.MISSING);
                    x.due("write(1, " + n + ", 0)", there ? Due.BEYOND : Due.MISSING);
                    x.due("write(1, " + (n - 1) + ", 0)", !there ? Due.MISSING : n == 0 ? Due.BEYOND : 1);
                }
            }
        });
    }

    /** What asks() answers, by the class and by the model, with CRAFT 0 and 1. */
    private static void asTheModel(Edges t, String text) {
        FarDishes x = new FarDishes();
        Model m = new Model();
        for (int c = 0; c < 2; c++) {
            x.craft(1, 0, 10);
            m.craft(1, 0, 10);
        }
        for (int i = 0; i < text.length(); i++) {
            x.feed(text.charAt(i), 1);
            m.feed(text.charAt(i), 1);
        }
        t.due("asks() of '" + text + "'", x.asks(), m.asks());
        t.due("count(3) behind '" + text + "'", x.count(3), m.count(3));
        for (int a = 0; a < x.count(3); a++) {
            for (int what = 0; what < 10; what++) {
                t.due("asking(" + a + ", " + what + ") behind '" + text + "'", x.asking(a, what), m.asking(a, what));
            }
        }
    }

    private static final String[] TEXTS = {"far c1n9from7to16worth8", "hear c 0 n1 from20to 30;array c1n2from0to2 worth999",
        "track c0n1from0to1;send c1n1from9to99;both c0n2from3to9;shared c1n3from4to7"};

    private static void texts(Edges t) {
        t.test("Terms 2", "The FAULT is the place of the first byte of the first that can't stand there", () -> {
            for (String text : TEXTS) {
                asTheModel(t, text);
                for (int at = 0; at < text.length(); at++) {
                    String before = text.substring(0, at);
                    asTheModel(t, before + text.substring(at + 1));
                    for (int b = 0; b < 256; b++) {
                        asTheModel(t, before + (char) b + text.substring(at + 1));
                        if (b % 7 == 0 || b >= 32 && b < 128) {
                            asTheModel(t, before + (char) b + text.substring(at));
                        }
                    }
                }
            }
        });
    }

    /** A text ahead of its FAULT is a whole one, or ends too early: nothing ahead of the FAULT is wrong. */
    private static void cuts(Edges t) {
        t.test("Terms 2", "(how many bytes there are, if it ends too early)", () -> {
            Random r = new Random(2);
            for (int i = 0; i < 3000; i++) {
                StringBuilder text = new StringBuilder(TEXTS[i % TEXTS.length]);
                text.setCharAt(r.nextInt(text.length()), " ;0123456789abcdefhnortw#".charAt(r.nextInt(25)));
                int answer = answer(text.toString());
                if (answer < 0) {
                    int place = -1 - answer;
                    int ahead = answer(text.substring(0, place));
                    t.due("asks() of '" + text.substring(0, place) + "' (ahead of a FAULT)", ahead > 0 ? -1 - place : ahead, -1 - place);
                }
            }
        });
    }

    private static int answer(String text) {
        FarDishes x = new FarDishes();
        x.craft(1, 0, 10);
        x.craft(1, 0, 10);
        return Due.asks(x, text);
    }
}
