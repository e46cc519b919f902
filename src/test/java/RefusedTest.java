import java.util.ArrayList;
import java.util.List;

/**
 * Terms 2: refused calls change nothing but THE TEXT, which a call that reads it empties; questions change
 * nothing. Of two objects made alike one gets the call; then both answer alike, whatever is asked or undone.
 */
public final class RefusedTest {
    /** Ways to come to a state in which calls are tried; each ends with a ROW and a text. */
    private static final String[][] STATES = {
        {"sign 959524152"},
        {"way '1234'", "bearers '30,5;20,9;25,2'", "sayings '10+3ab;8-2a;5+1c'", "rule 's-t-c+i'", "old 3 2",
            "claim 1 2 1", "take 0", "take 1", "say 0", "step", "keep 0", "take 2", "seventh 2", "keep 1", "step",
            "load 77", "force", "sign 959524152"},
        {"way '12'", "bearers '30,5;20,9'", "sayings '10+3ab;8-2a'", "keep 1", "take 0", "2 x step", "force",
            "sign 959524152"},
        {"way '12'", "bearers '30,5;20,9'", "sayings '10+3ab;8-2a'", "keep 1", "take 0", "step", "say 1", "leave 0",
            "force", "sign 959524152"},
        {"way '123456789012'", "bearers '9,1;9,2;9,3;9,4;9,5;9,6;9,7;9,8'",
            "sayings '1-1a;2-1a;3-1a;4-1a;5+1a;6+1a;7+1;8+1a'", "load 999", "keep 0", "take 0", "take 1", "take 2",
            "take 3", "take 4", "take 5", "seventh 3", "seventh 0", "walk 's0>s1>s2>s3>s4>' = 10", "say 5",
            "seventh 1", "seventh 0", "seventh 1", "seventh 0", "8 x old 0 0", "16 x claim 0 1 1", "keep 1",
            "force", "20 x sign 959524152"},
    };
    private static final String[] READERS = {
        "way", "bearers", "sayings", "rule", "walk", "law",
    };
    private static final String[] WRONG_TEXTS = {
        "x", "1x", "1,1;0", "1+1;0", "s+", "t0x", ">x", "(((((1", "1,1;1,1;1,0", "1+1b;1+1ba", "1111111111111",
        "s+s+s+s+s+s+s+s+s+s+s+s+s+s+s+s+s+s+s+s+s", ">>>>>>>>>>>>>>>>>>>>>>>>>>>>>>>>>>>>>>>>>>>>>>>>>>>>>>>>>>>>>",
    };
    private static final String[] QUESTIONS = {
        "ahead 0", "ahead 5", "first", "bears", "hush", "which", "could", "team 1", "team 2", "fewest", "change",
        "props", "rest 0", "slant", "cover 0", "cover 3", "lighter 0", "secret 0", "secret 1", "best", "worlds",
        "sure", "ask", "widow 0 0", "widow 1 1", "believe", "slips 3", "slips 10", "rests 5", "years 5 60",
        "years 605 9", "force", "count 3", "row 0", "bearer 0 4", "saying 0 5",
    };
    /** Calls, each with how many numbers it takes: many are tried in each place, most of them such as are refused. */
    private static final String[] WITH_NUMBERS = {
        "end 1", "load 1", "sheet 4", "take 1", "leave 1", "seventh 1", "say 1", "ahead 1", "team 1", "rest 1",
        "cover 1", "lighter 1", "secret 1", "old 2", "widow 2", "claim 3", "slips 1", "rests 1", "years 2",
        "keep 1", "again 1", "count 1", "row 1", "bearer 2", "saying 2",
    };
    private static final int[] NUMBERS = {
        0, 1, 2, 3, 4, 5, 7, 8, 12, 13, 61, 80, 81, 127, 128, 161, 256, 1000, -1, -161,
        Integer.MAX_VALUE, Integer.MIN_VALUE,
    };

    private static int refusals;

    public static void main(String[] args) {
        for (int state = 0; state < STATES.length; state++) {
            wrongTexts(state);
            questions(state);
            withNumbers(state);
            without(state);
        }
        Check.due("many calls are refused", refusals > 1000, true);
        Check.end();
    }

    private static SixToCarry made(int state) {
        return Runs.of("state " + state, STATES[state]);
    }

    private static void wrongTexts(int state) {
        for (String reader : READERS) {
            for (String text : WRONG_TEXTS) {
                SixToCarry x = made(state);
                String answer = Runs.answer(x, reader, new int[0], text);
                if (answer.startsWith("-")) {
                    SixToCarry y = made(state);
                    y.end(0);
                    alike("state " + state + ", " + reader + " '" + text + "' = " + answer, x, y, true);
                }
            }
        }
    }

    private static void questions(int state) {
        for (String question : QUESTIONS) {
            String[] words = question.split(" ");
            SixToCarry x = made(state);
            Runs.answer(x, words[0], numbers(words), null);
            alike("state " + state + ", " + question, x, made(state), false);
        }
        SixToCarry x = made(state);
        Runs.answer(x, "law", new int[0], "s+t");
        SixToCarry y = made(state);
        y.end(0);
        alike("state " + state + ", law 's+t'", x, y, false);
    }

    private static int[] numbers(String[] words) {
        int[] numbers = new int[words.length - 1];
        for (int k = 1; k < words.length; k++) {
            numbers[k - 1] = Integer.parseInt(words[k]);
        }
        return numbers;
    }

    /** Calls that answer below 0, false, or throw, have changed nothing: the ROW neither. */
    private static void withNumbers(int state) {
        for (String told : WITH_NUMBERS) {
            String name = told.split(" ")[0];
            int places = Integer.parseInt(told.split(" ")[1]);
            for (int[] numbers : choices(places)) {
                if (name.equals("count") || name.equals("sheet") && numbers[0] == 3) {
                    continue;
                }
                SixToCarry x = made(state);
                String answer = Runs.answer(x, name, numbers, null);
                boolean falseOne = answer.equals("0")
                        && (name.equals("end") || name.equals("keep") || name.equals("again"));
                if (answer.startsWith("-") || answer.equals("throws") || falseOne) {
                    alike("state " + state + ", " + new Drawn.Call(name, numbers) + " = " + answer, x, made(state), true);
                }
            }
        }
    }

    /** All numbers in the first place; in the others, one at a time, with 0 or 1 elsewhere. */
    private static List<int[]> choices(int places) {
        List<int[]> all = new ArrayList<>();
        for (int place = 0; place < places; place++) {
            for (int number : NUMBERS) {
                for (int other = 0; other < 2; other++) {
                    int[] numbers = new int[places];
                    for (int k = 0; k < places; k++) {
                        numbers[k] = k == place ? number : other;
                    }
                    all.add(numbers);
                }
            }
        }
        return all;
    }

    private static void without(int state) {
        for (String name : new String[] {"step", "undo", "sign", "first", "bears", "hush", "fewest", "change", "slant",
            "ask"}) {
            SixToCarry x = made(state);
            String answer = Runs.answer(x, name, new int[] {825373492}, null);
            if (answer.startsWith("-")) {
                alike("state " + state + ", " + name + " = " + answer, x, made(state), true);
            }
        }
    }

    private static void alike(String what, SixToCarry x, SixToCarry y, boolean andRow) {
        refusals++;
        if (andRow) {
            Check.due(what + ": the ROW", Check.row(x), Check.row(y));
        }
        Check.due(what + ": what is seen", Check.seen(x), Check.seen(y));
        Check.due(what + ": what is undone and kept", later(x), later(y));
    }

    /** All that is hidden, brought to light: THE TEXT, THE RULE, STEEP, what can be undone, what is kept. */
    private static String later(SixToCarry x) {
        StringBuilder all = new StringBuilder();
        all.append(x.count(14)).append(' ').append(x.worlds()).append(' ').append(x.believe()).append(' ');
        all.append(x.row(0));
        for (int left = x.count(12); left >= 0; left--) {
            brief(x, all);
            all.append(x.undo());
        }
        for (int i = 0; i < 2; i++) {
            all.append(x.again(i));
            brief(x, all);
        }
        x.take(0);
        for (int k = 0; k < 5; k++) {
            all.append(x.step()).append(' ').append(x.force()).append(' ').append(x.row(0)).append(' ');
        }
        all.append(x.walk()).append(' ').append(x.sign(0)).append(' ').append(x.end(0)).append(' ');
        all.append(x.sign(959524152)).append(' ');
        return all.append(x.way()).toString();
    }

    /** Short enough that no object gets more than 512 calls. */
    private static void brief(SixToCarry x, StringBuilder all) {
        all.append(" (");
        for (int what = 3; what <= 9; what++) {
            all.append(x.count(what)).append(' ');
        }
        int bearers = Math.min(3, x.count(1));
        for (int b = 0; b < bearers; b++) {
            all.append(x.bearer(b, 2)).append(' ');
        }
        all.append(") ");
    }
}
