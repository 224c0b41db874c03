import java.util.ArrayList;
import java.util.Arrays;
import java.util.List;
import java.util.Random;
import java.util.function.Consumer;

/** What a call tells would be so, held against another object in which it is so. */
final class TwinsEdges {
    private static final int SCENES = 40;

    private TwinsEdges() {
    }

    static void all(Edges t) {
        hold(t);
        best(t);
        judge(t);
        without(t);
        takes(t);
        bars(t);
        over(t);
        check(t);
        name(t);
        silence(t);
        stop(t);
        undo(t);
    }

    private static void scenes(Consumer<Scene> body) {
        for (int seed = 0; seed < SCENES; seed++) {
            body.accept(new Scene(seed, 1 + seed % 4));
        }
    }

    /** The ASKINGS that have a DISH in THE PLAN, as a set. */
    private static int inPlan(Run x) {
        int set = 0;
        int askings = x.ask("count(3)");
        for (int a = 0; a < askings; a++) {
            set |= x.ask("plan(" + a + ")") >= 0 ? 1 << a : 0;
        }
        return set;
    }

    private static void hold(Edges t) {
        t.test("Promise 24", "THE PLAN is HELD: how many ASKINGS are planned by it.", () -> scenes(s -> {
            Run x = s.make(t);
            Run y = s.make(t);
            int held = y.ask("hold()");
            int weight = 0;
            for (int a = s.ahead(); a < s.ahead() + s.waiting(); a++) {
                int dish = x.ask("plan(" + a + ")");
                y.due("asking(" + a + ", 6)", dish < 0 ? 0 : 1).due("asking(" + a + ", 7)", dish);
                x.due("begins(" + a + ")", dish < 0 ? Due.NONE : y.ask("asking(" + a + ", 8)"));
                weight += dish < 0 ? 0 : x.ask("asking(" + a + ", 9)");
            }
            t.due("how many are HELD", held, Integer.bitCount(inPlan(x)));
            x.due("plan(-1)", weight);
        }));
    }

    /** The places of sheet 0 become a row; only what is another one is written. */
    private static void writeRow(Run x, int[] row, int[] was) {
        for (int i = 0; i < row.length; i++) {
            if (row[i] != was[i]) {
                x.go("write(0, " + i + ", " + row[i] + ")");
                was[i] = row[i];
            }
        }
    }

    /** The next row in the order of the document: DISHES by numbers, none (-1) behind all; false behind the last. */
    private static boolean nextRow(int[] row, int dishes) {
        for (int i = row.length - 1; i >= 0; i--) {
            if (row[i] >= 0) {
                row[i] = row[i] == dishes - 1 ? -1 : row[i] + 1;
                Arrays.fill(row, i + 1, row.length, 0);
                return true;
            }
        }
        return false;
    }

    private static void best(Edges t) {
        t.test("Terms 3", "Of all ways in which each can: that with the most WEIGHT together; of several that with the fewest ASKINGS; of"
            + " several the first as a row of DISHES (none behind all).", () -> {
            for (int seed = 100; seed < 100 + SCENES; seed++) {
                bestOf(t, new Scene(seed, 1 + seed % 2), 1 + seed % 2);
            }
        });
    }

    /** Every row of DISHES is judged; THE PLAN is the best of them. */
    private static void bestOf(Edges t, Scene s, int dishes) {
        int looked = Math.min(5, s.waiting());
        String sheet = "sheet(0, 8, " + looked + ")";
        Run x = s.make(t).go(sheet);
        int[] row = new int[looked];
        int[] written = new int[looked];
        int[] best = null;
        int most = -1;
        long fewest = 0;
        boolean more = true;
        while (more) {
            if (x.calls() > 500) {
                x = s.make(t).go(sheet);
                Arrays.fill(written, 0);
            }
            writeRow(x, row, written);
            int weight = x.ask("judge(0)");
            long used = Arrays.stream(row).filter(d -> d >= 0).count();
            if (weight > most || weight == most && weight >= 0 && used < fewest) {
                best = row.clone();
                most = weight;
                fewest = used;
            }
            more = nextRow(row, dishes);
        }
        Run y = s.make(t).due("plan(-1)", most);
        for (int i = 0; i < looked; i++) {
            y.due("plan(" + (s.ahead() + i) + ")", best[i]);
        }
    }

    private static void judge(Edges t) {
        t.test("Promise 23", "the WEIGHT if they can stand so, else -1.", () -> {
            Random r = new Random(23);
            scenes(s -> {
                Run x = s.make(t);
                int dishes = x.ask("count(0)");
                int looked = Math.min(5, s.waiting());
                x.go("sheet(0, 16, " + looked + ")");
                int[] written = new int[looked];
                int[] row = new int[looked];
                while (x.calls() < 440) {
                    for (int i = 0; i < looked; i++) {
                        row[i] = r.nextInt(dishes + 1) - 1;
                    }
                    writeRow(x, row, written);
                    x.due("judge(0)", standing(x, s, row));
                }
            });
        });
    }

    /** By what the other calls tell of them: what a row of DISHES weighs, -1 if one can't stand so. */
    private static int standing(Run x, Scene s, int[] row) {
        int[] first = new int[x.ask("count(0)")];
        Arrays.fill(first, x.ask("count(9)"));
        for (int a = 0; a < s.ahead(); a++) {
            int state = x.ask("asking(" + a + ", 6)");
            if (state == 1 || state == 2) {
                int d = x.ask("asking(" + a + ", 7)");
                int end = x.ask("asking(" + a + ", 8)") + x.ask("asking(" + a + ", 2)");
                first[d] = Math.max(first[d], end + x.ask("dishIs(" + d + ", 2)"));
            }
        }
        int weight = 0;
        for (int i = 0; i < row.length; i++) {
            if (row[i] >= 0) {
                int a = s.ahead() + i;
                int n = x.ask("asking(" + a + ", 2)");
                int from = Math.max(first[row[i]], x.ask("asking(" + a + ", 3)"));
                int place = x.ask("dishIs(" + row[i] + ", 0)");
                int begins = x.ask("rise(" + x.ask("asking(" + a + ", 1)") + ", " + place + ", " + from + ", " + n + ")");
                boolean stands = begins >= 0 && begins + n <= x.ask("asking(" + a + ", 4)");
                if (!stands || x.ask("dishIs(" + row[i] + ", 3)") == 1) {
                    return -1;
                }
                first[row[i]] = begins + n + x.ask("dishIs(" + row[i] + ", 2)");
                weight += x.ask("asking(" + a + ", 9)");
            }
        }
        return weight;
    }

    private static void without(Edges t) {
        t.test("Promise 20", "What THE PLAN would weigh if an ASKING that waits weren't there.", () -> scenes(s -> {
            Run x = s.make(t);
            for (int i = 0; i < s.waiting(); i++) {
                x.due("without(" + (s.ahead() + i) + ")", s.makeBut(t, i).ask("plan(-1)"));
            }
        }));
    }

    private static void takes(Edges t) {
        t.test("Promise 21", "ASKINGS that would not be in THE PLAN any more, if an ASKING that waits had a WORTH (0 to 999), as a set"
            + " (nothing changes).", () -> scenes(s -> {
            Run x = s.make(t);
            int before = inPlan(x);
            for (int a = s.ahead(); a < s.ahead() + s.waiting(); a++) {
                for (int v : new int[] {0, 2, 5, 20, 999}) {
                    int after = inPlan(s.make(t).go("worth(" + a + ", " + v + ")"));
                    x.due("takes(" + a + ", " + v + ")", before & ~after);
                }
            }
            t.due("THE PLAN behind takes", inPlan(x), before);
        }));
    }

    private static void bars(Edges t) {
        t.test("Promise 22", "1 if THE PLAN of these two alone doesn't have both, but that of each alone has it; else 0.", () ->
            scenes(s -> {
                Run x = s.make(t);
                for (int i = 0; i < s.waiting(); i++) {
                    for (int k = i + 1; k < s.waiting(); k++) {
                        int both = Integer.bitCount(inPlan(s.makeOf(t, i, k)));
                        int alone = Integer.bitCount(inPlan(s.makeOf(t, i))) + Integer.bitCount(inPlan(s.makeOf(t, k)));
                        int want = both < 2 && alone == 2 ? 1 : 0;
                        int a = s.ahead() + i;
                        int b = s.ahead() + k;
                        x.due("bars(" + a + ", " + b + ")", want).due("bars(" + b + ", " + a + ")", want);
                    }
                }
            }));
    }

    private static void over(Edges t) {
        t.test("Promise 29", "BLOCKS of a CRAFT that would be LOST in n DAYS (1 to 9) without any TRACK, from the open HOUR on (nothing"
            + " changes).", () -> scenes(s -> {
            Run x = s.make(t);
            Run y = s.make(t);
            for (int d = y.ask("count(0)") - 1; d >= 0; d--) {
                y.go("mend(" + d + ", true)");
            }
            int[] lost = new int[s.craft()];
            for (int c = 0; c < s.craft(); c++) {
                lost[c] = x.ask("craftIs(" + c + ", 9)");
            }
            for (int n = 1; n <= 9; n++) {
                y.go("run(24)");
                for (int c = 0; c < s.craft(); c++) {
                    x.due("over(" + c + ", " + n + ")", y.ask("craftIs(" + c + ", 9)") - lost[c]);
                }
            }
        }));
    }

    /** Two CRAFT with BLOCKS from the days before, heard by up to three DISHES from CLOCK 0 on; none of them is FAR 0. */
    private static Run heard(Edges t, int seed) {
        Random r = Scene.random(seed);
        Run x = t.run();
        for (int d = r.nextInt(3); d >= 0; d--) {
            x.go("dish(0, " + (2 + r.nextInt(8)) + ", " + r.nextInt(2) + ")");
        }
        for (int c = 0; c < 2; c++) {
            x.go("craft(" + (4 + r.nextInt(6)) + ", " + (1 + r.nextInt(3)) + ", " + (10 * (1 + r.nextInt(12)) + 1 + r.nextInt(6)) + ")");
            x.go("rises(" + c + ", 0, 0, 24)", "rain(0, " + (2 + c) + ", " + r.nextInt(10) + ")");
        }
        String[] kinds = {"hear", "both", "far", "shared", "array", "send", "track"};
        for (int i = 0; i < 4; i++) {
            int from = 48 + r.nextInt(6);
            x.asks(kinds[r.nextInt(7)] + " c" + r.nextInt(2) + "n" + (2 + r.nextInt(8)) + "from" + from + "to99worth" + (1 + r.nextInt(9)));
        }
        x.go("hold()", "run(" + (48 + r.nextInt(4)) + ")");
        return r.nextInt(4) == 0 ? x.go("mend(0, true)") : x;
    }

    private static void check(Edges t) {
        t.test("Promise 39", "Numbers of a sheet tell, from the open HOUR on, how many BLOCKS are SENT (again, too) by all CRAFT in each"
            + " HOUR: the place of the first that isn't as it would be; how many it has if all are (nothing changes).", () -> {
            int all = 0;
            for (int seed = 0; seed < SCENES; seed++) {
                int[] sent = sentInHours(heard(t, seed), 12);
                Run x = heard(t, seed).go("sheet(0, 8, 12)");
                for (int i = 0; i < sent.length; i++) {
                    x.go("write(0, " + i + ", " + sent[i] + ")");
                    all += sent[i];
                }
                x.due("check(0)", 12);
                for (int i = 0; i < sent.length; i++) {
                    x.go("write(0, " + i + ", " + (sent[i] + 1) + ")").due("check(0)", i).go("write(0, " + i + ", " + sent[i] + ")");
                }
                x.due("check(0)", 12);
            }
            t.due("many BLOCKS are SENT", all > 5 * SCENES ? 1 : 0, 1);
        });
    }

    /** As HOURS go (none at CLOCK 23): the BLOCKS that say they were SENT in each. */
    private static int[] sentInHours(Run x, int n) {
        int[] sent = new int[n];
        for (int i = 0; i < n; i++) {
            int hour = x.ask("run(1)") - 1;
            for (int c = 0; c < 2; c++) {
                int blocks = x.ask("craftIs(" + c + ", 4)");
                for (int b = 0; b < blocks; b++) {
                    sent[i] += x.ask("block(" + c + ", " + b + ", 2)") == hour ? 1 : 0;
                }
            }
        }
        return sent;
    }

    private static void name(Edges t) {
        t.test("Promise 28", "BLOCKS of a CRAFT up to a number (0 or more) are NAMED: how many are HAD.", () -> {
            for (int seed = 0; seed < SCENES; seed++) {
                Run x = heard(t, seed).go("run(" + (1 + seed % 12) + ")");
                nameOne(x, seed % 2, seed % 7);
                nameOne(x, seed % 2, 99);
            }
        });
    }

    private static void nameOne(Run x, int craft, int number) {
        int far = x.ask("craftIs(" + craft + ", 1)");
        int hour = x.ask("count(9)");
        int had = x.ask("craftIs(" + craft + ", 7)");
        List<Integer> stay = new ArrayList<>();
        int blocks = x.ask("craftIs(" + craft + ", 4)");
        for (int b = 0; b < blocks; b++) {
            int its = x.ask("block(" + craft + ", " + b + ", 0)");
            int sent = x.ask("block(" + craft + ", " + b + ", 2)");
            if (its > number || sent < 0 || hour - sent < far) {
                stay.add(its);
            }
        }
        x.due("name(" + craft + ", " + number + ")", blocks - stay.size());
        x.due("craftIs(" + craft + ", 4)", stay.size()).due("craftIs(" + craft + ", 7)", had + blocks - stay.size());
        for (int b = 0; b < stay.size(); b++) {
            x.due("block(" + craft + ", " + b + ", 0)", stay.get(b));
        }
    }

    private static void silence(Edges t) {
        t.test("Promise 34", "How many DAYS of silence from STATE s until a HEARD one (0: it is).", () -> {
            Random r = new Random(34);
            for (int i = 0; i < 200; i++) {
                Run x = t.run().go("craft(1, 0, 10)");
                int[] next = new int[8];
                boolean[] heard = new boolean[8];
                for (int s = 0; s < 8; s++) {
                    next[s] = r.nextInt(8);
                    heard[s] = r.nextInt(6) == 0;
                    x.due("table(0, " + s + ", " + next[s] + ", " + heard[s] + ")", s);
                }
                int never = 0;
                for (int s = 0; s < 8; s++) {
                    int later = x.ask("silence(0, " + next[s] + ")");
                    x.due("silence(0, " + s + ")", heard[s] ? 0 : later == Due.NONE ? Due.NONE : later + 1);
                    never |= !heard[s] && later == Due.NONE ? 1 << s : 0;
                }
                x.due("ever(0)", never);
            }
        });
    }

    private static void stop(Edges t) {
        t.test("Promise 38", "After how many LOOKS (of those to come) their ODDS together are at least v hundredths of all ODDS of CELLS that"
            + " weren't looked into (v 1 to 100).", () -> {
            Random r = new Random(38);
            for (int i = 0; i < SCENES; i++) {
                int[] odds = new int[64];
                Run x = t.run();
                for (int k = 0; k < 30; k++) {
                    int cell = r.nextInt(64);
                    odds[cell] = r.nextInt(i % 2 == 0 ? 4 : 100);
                    x.go("cell(" + cell + ", " + odds[cell] + ")");
                }
                for (int k = r.nextInt(5); k > 0; k--) {
                    odds[x.ask("seek()")] = 0;
                }
                stops(t, x, odds);
            }
        });
    }

    /** Each stop is asked for first, then the LOOKS are made. */
    private static void stops(Edges t, Run x, int[] odds) {
        int[] stop = new int[101];
        for (int v = 1; v <= 100; v++) {
            stop[v] = x.ask("stop(" + v + ")");
        }
        int all = Arrays.stream(odds).sum();
        int sum = 0;
        int looks = 0;
        int v = 1;
        while (v <= 100) {
            int cell = x.ask("seek()");
            sum += odds[cell];
            looks++;
            while (v <= 100 && 100 * sum >= v * all) {
                t.due("stop(" + v + ")", stop[v], looks);
                v++;
            }
        }
    }

    private static void undo(Edges t) {
        t.test("Promise 44", "It becomes what was kept latest (which stays): the open HOUR.", () -> {
            for (int seed = 0; seed < 8; seed++) {
                Scene s = new Scene(seed, 2 + seed % 3);
                String first = Edges.firstChange(() -> changed(s.make(t).go("image()"), s), "undo()", () -> s.make(t).go("image()"));
                t.due("undo() of an object like this leaves another one" + first, first.isEmpty() ? 0 : 1, 0);
            }
        });
    }

    /** Something of each part of an image becomes another. */
    private static Run changed(Run x, Scene s) {
        int a = s.ahead();
        x.ask("worth(" + a + ", 77)");
        x.go("hold()", "order(0, 2000)", "run(30)", "rain(0, 0, 9)", "rain(2, 13, 9)", "mend(0, true)", "run(5)");
        x.go("rises(1, 0, 3, 3)", "name(0, 99)", "order(1, 2000)", "table(2, 3, 4, true)", "cell(9, 9)", "cell(8, 9)", "seek()");
        x.ask("dish(0, 1, 0)");
        return x.go("craft(1, 1, 11)", "rises(3, 1, 1, 1)", "run(70)");
    }
}
