import java.util.NoSuchElementException;
import java.util.regex.Matcher;
import java.util.regex.Pattern;

/**
 * Runs of calls on a new object, each told in a line: [how often x] name [numbers] ['text'] [= answer] [| ROW].
 * A text is THE TEXT that the call reads; the answer is a number, true, false or throws (a
 * NoSuchElementException). A call without an answer only sets up: it must not answer below 0.
 */
final class Runs {
    private static final Pattern CALL = Pattern.compile(
            "(?:(\\d+) x )?(\\w+)((?: -?\\w+)*)(?: '([^']*)')?(?: = (\\S+))?(?: \\|(.*))?");

    private Runs() {
    }

    /** The sentence of the document, with its promise, and the run that shows it. */
    static SixToCarry of(String sentence, String... calls) {
        SixToCarry x = new SixToCarry();
        go(x, sentence, calls);
        return x;
    }

    static void go(SixToCarry x, String sentence, String... calls) {
        for (int k = 0; k < calls.length; k++) {
            Matcher call = CALL.matcher(calls[k]);
            if (!call.matches()) {
                throw new AssertionError("not a call: " + calls[k]);
            }
            int times = call.group(1) == null ? 1 : Integer.parseInt(call.group(1));
            for (int n = 0; n < times; n++) {
                once(x, sentence + " [" + k + ": " + calls[k] + "]", call);
            }
        }
    }

    private static void once(SixToCarry x, String what, Matcher call) {
        String got = answer(x, call.group(2), numbers(call.group(3)), call.group(4));
        if (call.group(5) != null) {
            Check.due(what, got, due(call.group(5)));
        } else if (got.startsWith("-") || got.equals("throws")) {
            throw new AssertionError(what + " answered " + got);
        }
        if (call.group(6) != null) {
            Check.due(what + " ROW", Check.row(x), call.group(6).trim());
        }
    }

    static String answer(SixToCarry x, String name, int[] numbers, String text) {
        if (text != null) {
            Check.text(x, text);
        }
        try {
            return Long.toString(Faces.call(x, name, numbers));
        } catch (NoSuchElementException e) {
            return "throws";
        }
    }

    private static int[] numbers(String told) {
        String[] words = told.trim().isEmpty() ? new String[0] : told.trim().split(" ");
        int[] numbers = new int[words.length];
        for (int k = 0; k < words.length; k++) {
            numbers[k] = words[k].equals("MIN") ? Integer.MIN_VALUE
                    : words[k].equals("MAX") ? Integer.MAX_VALUE
                    : Integer.parseInt(words[k]);
        }
        return numbers;
    }

    private static String due(String told) {
        return told.equals("true") ? "1" : told.equals("false") ? "0" : told;
    }
}
