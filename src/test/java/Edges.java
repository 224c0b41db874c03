import java.util.ArrayList;
import java.util.LinkedHashSet;
import java.util.List;
import java.util.Map;
import java.util.Set;
import java.util.function.Consumer;
import java.util.function.Supplier;

/**
 * Tests of the document's sentences. Each says where its sentence stands ("Promise 9", "Terms 3") and quotes it, or
 * the part of it that it holds; a quote that the document doesn't have is wrong, and so is a sentence without a test.
 */
final class Edges {
    private static final int FINDINGS = 7;

    private final Map<String, List<String>> document = new Document().sentences();
    private final Set<String> held = new LinkedHashSet<>();
    private final boolean tellsAll;
    private String now = "";
    private int tests = 0;
    private int answers = 0;
    private int wrong = 0;

    Edges(boolean tellsAll) {
        this.tellsAll = tellsAll;
    }

    void test(String where, String sentence, Runnable body) {
        now = where + ", \"" + sentence + "\"";
        tests++;
        hold(where, sentence);
        int before = answers;
        int wrongBefore = wrong;
        body.run();
        if (answers == before) {
            tell("asks nothing");
        }
        if (tellsAll && wrong == wrongBefore) {
            System.out.println("ok " + now);
        }
    }

    private void hold(String where, String sentence) {
        for (String s : document.getOrDefault(where, List.of())) {
            if (s.contains(sentence)) {
                held.add(where + ": " + s);
                return;
            }
        }
        tell("the document doesn't say this there");
    }

    private void tell(String what) {
        wrong++;
        System.out.println(now + ": " + what);
    }

    void due(String call, int got, int want) {
        answers++;
        if (got != want) {
            tell(call + " answered " + got + ", due is " + want);
        }
    }

    Run run() {
        return new Run(this);
    }

    /** Calls that answer a finding where much is there, and change nothing but status. */
    void refused(int finding, String... calls) {
        refused(() -> Made.busy(this), finding, calls);
    }

    void refused(Supplier<Run> made, int finding, String... calls) {
        for (String call : calls) {
            made.get().due(call, finding);
            sameBut(made, call);
            int[] before = told(made.get());
            Run x = made.get();
            x.ask(call);
            int[] after = told(x);
            for (int which = -1; which < FINDINGS; which++) {
                int more = which == -1 || which == Due.BEYOND - finding ? 1 : 0;
                due("status(" + which + ") behind " + call, after[which + 1], before[which + 1] + more);
            }
        }
    }

    private static int[] told(Run x) {
        int[] told = new int[FINDINGS + 1];
        for (int which = -1; which < FINDINGS; which++) {
            told[which + 1] = x.ask("status(" + which + ")");
        }
        return told;
    }

    /** A call that answers what is due, and changes nothing. */
    void unchanged(Supplier<Run> made, String call, int want) {
        Run x = made.get();
        int all = x.ask("status(-1)");
        x.due(call, want).due("status(-1)", all);
        sameBut(made, call);
    }

    private void sameBut(Supplier<Run> made, String call) {
        String first = firstChange(made, call);
        due(call + " changes something" + first, first.isEmpty() ? 0 : 1, 0);
    }

    /** The first of all that can be seen that is another one behind a call; none if nothing is. */
    static String firstChange(Supplier<Run> made, String call) {
        return firstChange(made, call, made);
    }

    /** The first of all that can be seen, behind a call, that isn't as it is seen of another object. */
    static String firstChange(Supplier<Run> made, String call, Supplier<Run> other) {
        for (Consumer<Look> part : Look.PARTS) {
            List<String> without = see(part, other.get());
            Run x = made.get();
            x.ask(call);
            List<String> with = see(part, x);
            for (int i = 0; i < with.size(); i++) {
                if (!with.get(i).equals(without.get(i))) {
                    return ": " + with.get(i) + ", not " + without.get(i);
                }
            }
        }
        return "";
    }

    private static List<String> see(Consumer<Look> part, Run x) {
        Look look = new Look(x);
        part.accept(look);
        return look.seen();
    }

    void end() {
        List<String> without = new ArrayList<>();
        int all = 0;
        for (Map.Entry<String, List<String>> e : document.entrySet()) {
            for (String s : e.getValue()) {
                all++;
                if (!held.contains(e.getKey() + ": " + s)) {
                    without.add(e.getKey() + ": " + s);
                }
            }
        }
        for (String s : without) {
            System.out.println("no test holds " + s);
        }
        System.out.println(tests + " tests of " + all + " sentences, " + answers + " answers, " + wrong + " wrong");
        if (wrong != 0 || !without.isEmpty() || tests == 0) {
            System.exit(1);
        }
    }
}
