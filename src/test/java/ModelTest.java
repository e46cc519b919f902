import java.util.ArrayList;
import java.util.List;
import java.util.NoSuchElementException;

/** Runs drawn by a seed, on the class and on the model of it: every answer and all that is seen is the same. */
public final class ModelTest {
    private static final int RUNS = 2500;
    private static final int CALLS = 150;

    public static void main(String[] args) {
        int runs = args.length > 0 ? Integer.parseInt(args[0]) : RUNS;
        int from = args.length > 1 ? Integer.parseInt(args[1]) : 0;
        for (int seed = from; seed < from + runs && Check.failures() < 10; seed++) {
            compare(seed, new Drawn(seed).run(CALLS));
        }
        for (int seed = from; seed < from + runs / 5 && Check.failures() < 10; seed++) {
            sweep(-1 - seed);
        }
        Check.end();
    }

    /** Behind a short run, LOADS a little above what they bear, and all sets for those that take sets. */
    private static void sweep(int seed) {
        List<Drawn.Call> calls = new ArrayList<>(new Drawn(seed).run(60));
        SixToCarry x = new SixToCarry();
        for (Drawn.Call call : calls) {
            answer(x, null, call);
        }
        for (int b = 0; b < 6; b++) {
            add(calls, "take", b);
            x.take(b);
        }
        int borne = Math.max(0, x.bears());
        for (int more : new int[] {0, 1, 3, 8, 13, 19, 26, 34, 43}) {
            add(calls, "load", Math.min(999, borne + more));
            for (String name : new String[] {"hush", "which", "could", "fewest", "props", "first"}) {
                add(calls, name);
            }
            add(calls, "slips", more % 11);
            add(calls, "ahead", 12);
        }
        for (int those = 0; those <= 1 << x.count(2); those += 1 + those / 16) {
            add(calls, "cover", those);
            add(calls, "widow", those, x.count(3) + those % 7);
        }
        for (int k = 0; k < 18; k++) {
            add(calls, "claim", k * 7 % 4, k % 3, (k + seed & 3) == 0 ? 1 : 0);
            add(calls, "believe");
        }
        compare(seed, calls);
    }

    private static void add(List<Drawn.Call> calls, String name, int... numbers) {
        calls.add(new Drawn.Call(name, numbers));
    }

    private static void compare(int seed, List<Drawn.Call> calls) {
        SixToCarry x = new SixToCarry();
        Model m = new Model();
        for (int k = 0; k < calls.size(); k++) {
            Drawn.Call call = calls.get(k);
            String got = answer(x, null, call);
            String want = answer(null, m, call);
            Check.due("seed " + seed + ", call " + k + ", " + call, got, want);
            if (!got.equals(want)) {
                return;
            }
            String seen = seen(x, null);
            String due = seen(null, m);
            Check.due("seed " + seed + ", behind call " + k + ", " + call, seen, due);
            if (!seen.equals(due)) {
                return;
            }
        }
    }

    private static String answer(SixToCarry x, Model m, Drawn.Call call) {
        try {
            return "" + (x != null ? Faces.call(x, call.name(), call.numbers()) : m.call(call.name(), call.numbers()));
        } catch (NoSuchElementException e) {
            return "NoSuchElementException";
        }
    }

    private static long ask(SixToCarry x, Model m, String name, int... numbers) {
        return x != null ? Faces.call(x, name, numbers) : m.call(name, numbers);
    }

    private static String seen(SixToCarry x, Model m) {
        StringBuilder all = new StringBuilder();
        for (int what = -1; what <= 16; what++) {
            all.append(ask(x, m, "count", what)).append(' ');
        }
        all.append("ROW ");
        for (int i = 0; i < ask(x, m, "count", 13); i++) {
            all.append(ask(x, m, "row", i)).append(' ');
        }
        all.append("BEARERS ");
        for (int b = 0; b < ask(x, m, "count", 1); b++) {
            for (int what = 0; what < 5; what++) {
                all.append(ask(x, m, "bearer", b, what)).append(' ');
            }
        }
        all.append("SAYINGS ");
        for (int s = 0; s < ask(x, m, "count", 2); s++) {
            for (int what = 0; what < 6; what++) {
                all.append(ask(x, m, "saying", s, what)).append(' ');
            }
        }
        return all.toString();
    }
}
