import java.util.Arrays;
import java.util.NoSuchElementException;

/** Promises 4 to 7, 18 and 47: every short text of a few signs, on the class and on the model of it. */
public final class ShortTextsTest {
    public static void main(String[] args) {
        tryAll("way", "059a", 5, "count 0", "sheet 2 1 0 0");
        tryAll("bearers", "0149,;x", 6, "count 1", "bearer 0 0", "bearer 0 1");
        tryAll("sayings", "012+-;abde", 5, "count 2", "saying 0 0", "saying 0 1", "saying 0 2", "saying 0 3");
        tryAll("rule", "s7()-/<z", 6, "bearer 0 4", "bearer 1 4", "force");
        tryAll("rule", "x2+*=", 6, "bearer 0 4", "bearer 1 4", "force");
        tryAll("walk", "t1lvsb>e", 5, "row 0", "row 1", "count 5", "count 6", "count 7", "count 9", "count 12");
        tryAll("law", "s9()->", 5, "row 0", "row 1");
        Check.end();
    }

    private static void tryAll(String name, String signs, int longest, String... seen) {
        int[] digits = new int[longest];
        for (int length = 0; length <= longest; length++) {
            Arrays.fill(digits, 0);
            do {
                StringBuilder text = new StringBuilder();
                for (int k = 0; k < length; k++) {
                    text.append(signs.charAt(digits[k]));
                }
                compare(name, text.toString(), seen);
            } while (next(digits, length, signs.length()));
        }
    }

    private static boolean next(int[] digits, int length, int base) {
        for (int k = length - 1; k >= 0; k--) {
            digits[k] = (digits[k] + 1) % base;
            if (digits[k] > 0) {
                return true;
            }
        }
        return false;
    }

    private static void compare(String name, String text, String... seen) {
        SixToCarry x = new SixToCarry();
        Model m = new Model();
        if (!name.equals("bearers") && !name.equals("sayings")) {
            both(x, m, "way", "4050");
            both(x, m, "bearers", "40,7;31,2");
            both(x, m, "sayings", "9+1a;8-2b;7+3ab");
            x.take(0);
            m.call("take", new int[] {0});
        }
        Check.due(name + " '" + text + "'", both(x, m, name, text), "");
        for (String question : seen) {
            String[] words = question.split(" ");
            int[] numbers = new int[words.length - 1];
            for (int k = 0; k < numbers.length; k++) {
                numbers[k] = Integer.parseInt(words[k + 1]);
            }
            Check.due(name + " '" + text + "', " + question, unlike(x, m, words[0], numbers), "");
        }
    }

    private static String both(SixToCarry x, Model m, String name, String text) {
        Check.text(x, text);
        m.text(text);
        return unlike(x, m, name, new int[0]);
    }

    /** Nothing, if both answer alike. */
    private static String unlike(SixToCarry x, Model m, String name, int[] numbers) {
        String got = Runs.answer(x, name, numbers, null);
        String want;
        try {
            want = Long.toString(m.call(name, numbers));
        } catch (NoSuchElementException e) {
            want = "throws";
        }
        return got.equals(want) ? "" : got + " for " + want;
    }
}
