import java.util.NoSuchElementException;
import java.util.function.LongSupplier;

/** What all tests share: answers that are due, texts put in, rows read out. */
final class Check {
    private static final int MOST_SHOWN = 40;
    private static int passed;
    private static int failed;

    private Check() {
    }

    static void due(String what, long got, long want) {
        note(got == want, what + " answered " + got + ", due is " + want);
    }

    static void due(String what, boolean got, boolean want) {
        note(got == want, what + " answered " + got + ", due is " + want);
    }

    static void due(String what, String got, String want) {
        note(got.equals(want), what + " answered " + got + ", due is " + want);
    }

    /** An answer and the ROW behind it. */
    static void due(String what, SixToCarry x, long got, long want, String row) {
        due(what, got, want);
        due(what + ", its ROW", row(x), row);
    }

    static void throwsNoSuch(String what, LongSupplier call) {
        String outcome;
        try {
            outcome = "answered " + call.getAsLong();
        } catch (NoSuchElementException e) {
            outcome = e.getClass() == NoSuchElementException.class ? "" : "threw " + e;
        }
        note(outcome.isEmpty(), what + " " + outcome + ", due is NoSuchElementException");
    }

    private static void note(boolean right, String otherwise) {
        if (right) {
            passed++;
            return;
        }
        failed++;
        if (failed <= MOST_SHOWN) {
            System.out.println(otherwise);
        }
    }

    static int failures() {
        return failed;
    }

    /** THE TEXT is this one alone. */
    static SixToCarry text(SixToCarry x, String text) {
        x.end(0);
        for (int p = 0; p < text.length(); p += 4) {
            int v = 0;
            for (int k = p; k < p + 4; k++) {
                v = v << 8 | (k < text.length() ? text.charAt(k) : 0);
            }
            x.sign(v);
        }
        if (!x.end(text.length())) {
            throw new AssertionError("no room for " + text);
        }
        return x;
    }

    static SixToCarry funeral(String way, String bearers, String sayings) {
        SixToCarry x = new SixToCarry();
        if (text(x, way).way() < 0 || text(x, bearers).bearers() < 0 || text(x, sayings).sayings() < 0) {
            throw new AssertionError("the test tells a wrong text");
        }
        return x;
    }

    static void rule(SixToCarry x, String rule) {
        due("rule " + rule, text(x, rule).rule(), 0);
    }

    static void take(SixToCarry x, int... those) {
        for (int bearer : those) {
            if (x.take(bearer) < 0) {
                throw new AssertionError("the test lets a wrong one take hold");
            }
        }
    }

    static String row(SixToCarry x) {
        StringBuilder all = new StringBuilder();
        for (int i = 0; i < x.count(13); i++) {
            all.append(i == 0 ? "" : " ").append(x.row(i));
        }
        return all.toString();
    }

    /** All that can be seen of an object but the ROW and THE TEXT. */
    static String seen(SixToCarry x) {
        StringBuilder all = new StringBuilder();
        for (int what = 0; what <= 12; what++) {
            all.append(x.count(what)).append(' ');
        }
        for (int b = 0; b < x.count(1); b++) {
            all.append("; ");
            for (int what = 0; what <= 4; what++) {
                all.append(x.bearer(b, what)).append(' ');
            }
        }
        for (int s = 0; s < x.count(2); s++) {
            all.append("; ");
            for (int what = 0; what <= 5; what++) {
                all.append(x.saying(s, what)).append(' ');
            }
        }
        return all.toString();
    }

    static void end() {
        System.out.println("checks: " + passed + " right, " + failed + " wrong");
        if (failed > 0) {
            System.exit(1);
        }
    }
}
