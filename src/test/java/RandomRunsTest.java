import java.util.ArrayList;
import java.util.HashMap;
import java.util.List;
import java.util.Map;
import java.util.TreeMap;

/** Runs of calls drawn at random: the class answers as the model does, and a call that found something changes nothing. */
public final class RandomRunsTest {
    private static final int SIZE = 512;

    public static void main(String[] args) {
        int runs = args.length > 0 ? Integer.parseInt(args[0]) : 600;
        int wrong = 0;
        Map<String, Integer> findings = new TreeMap<>();
        for (int run = 0; run < runs && wrong < 5; run++) {
            List<Calls.Call> calls = Calls.run(run, SIZE, run % 4 == 3);
            wrong += asTheModel(run, calls, findings);
            wrong += withoutFindings(run, calls);
        }
        if (args.length > 0) {
            System.out.println(findings);
        }
        System.out.println(runs + " runs, " + wrong + " wrong");
        if (wrong != 0) {
            System.exit(1);
        }
    }

    private static int asTheModel(int run, List<Calls.Call> calls, Map<String, Integer> findings) {
        FarDishes x = new FarDishes();
        Model m = new Model();
        for (int i = 0; i < calls.size(); i++) {
            int got = Calls.answer(x, calls.get(i));
            int want = Calls.answer(m, calls.get(i));
            findings.merge(calls.get(i).name + (want < -1000000 ? want + 1000000 : want < 0 ? " below 0" : ""), 1, Integer::sum);
            if (got != want) {
                System.out.println("run " + run + ", call " + i + ": " + calls.get(i) + " answered " + got + ", due is " + want);
                return 1;
            }
        }
        return 0;
    }

    /** The run once more without the calls that answered a finding: all others answer the same, but for status. */
    private static int withoutFindings(int run, List<Calls.Call> calls) {
        FarDishes x = new FarDishes();
        List<Calls.Call> good = new ArrayList<>();
        Map<Integer, Integer> answers = new HashMap<>();
        for (Calls.Call call : calls) {
            int got = Calls.answer(x, call);
            if (got >= -1000000 && !call.name.equals("status")) {
                answers.put(good.size(), got);
                good.add(call);
            }
        }
        FarDishes y = new FarDishes();
        for (int i = 0; i < good.size(); i++) {
            int got = Calls.answer(y, good.get(i));
            if (got != answers.get(i)) {
                System.out.println("run " + run + " without findings: " + good.get(i) + " answered " + got + ", due is " + answers.get(i));
                return 1;
            }
        }
        return 0;
    }
}
