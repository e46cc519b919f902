import java.util.ArrayList;
import java.util.List;
import java.util.Random;

/** Calls and texts drawn by a seed: most of them such as can be, some such as can't. */
final class Drawn {
    /** A call: its name and its numbers. */
    record Call(String name, int[] numbers) {
        @Override
        public String toString() {
            StringBuilder all = new StringBuilder(name).append('(');
            for (int k = 0; k < numbers.length; k++) {
                all.append(k == 0 ? "" : ", ").append(numbers[k]);
            }
            return all.append(')').toString();
        }
    }

    private static final int[] EDGES = {Integer.MIN_VALUE, Integer.MAX_VALUE, -1, -2, 31, 32, 63, 64, 255, 256, 1000};
    private static final String[] QUESTIONS = {
        "force", "ahead", "first", "bears", "hush", "which", "could", "team", "fewest", "change", "props", "rest",
        "slant", "cover", "lighter", "secret", "best", "worlds", "sure", "ask", "widow", "believe", "slips", "rests",
        "years", "bearer", "saying", "row", "count",
    };
    private static final String[] ACTS = {
        "step", "step", "step", "take", "take", "take", "leave", "seventh", "say", "say", "say", "undo", "undo",
        "keep", "again", "load", "sheet", "old", "old", "forget", "claim", "claim", "unsaid", "end", "sign",
    };

    private final Random random;
    /** Some runs begin with many BEARERS and SAYINGS, and some of these have all SAYINGS 5 or 10 HEAVY. */
    private final boolean rich;
    private final boolean even;
    private final List<Call> calls = new ArrayList<>();

    Drawn(long seed) {
        random = new Random(seed);
        rich = random.nextInt(4) > 0;
        even = rich && random.nextBoolean();
    }

    /** A run of calls for one object. */
    List<Call> run(int length) {
        calls.clear();
        if (random.nextInt(10) > 0) {
            read("way");
            read("bearers");
            read("sayings");
        }
        for (int n = rich ? 2 + random.nextInt(6) : 0; n > 0; n--) {
            call("take", random.nextInt(8));
        }
        while (calls.size() < length) {
            int kind = random.nextInt(100);
            if (kind < 2) {
                read(any("way", "bearers", "sayings"));
            } else if (kind < 4) {
                call("end", 0);
                call("rule");
            } else if (kind < 14) {
                read(any("rule", "walk", "walk", "law", "law"));
            } else if (kind < 55) {
                add(any(ACTS));
            } else {
                add(any(QUESTIONS));
            }
        }
        return calls;
    }

    private String any(String... those) {
        return those[random.nextInt(those.length)];
    }

    /** A number 0 .. n - 1, seldom one beyond. */
    private int upTo(int n) {
        int kind = random.nextInt(40);
        if (kind == 0) {
            return EDGES[random.nextInt(EDGES.length)];
        }
        return kind < 3 ? n : random.nextInt(n);
    }

    private void call(String name, int... numbers) {
        calls.add(new Call(name, numbers));
    }

    private void add(String name) {
        switch (name) {
            case "bearer": call(name, upTo(8), upTo(5)); return;
            case "saying": call(name, upTo(8), upTo(6)); return;
            case "take": case "leave": case "rest": case "say": call(name, upTo(8)); return;
            case "seventh": case "lighter": call(name, upTo(4)); return;
            case "load": call(name, random.nextInt(6) == 0 ? upTo(1000) : upTo(160)); return;
            case "sheet": sheet(); return;
            case "ahead": call(name, upTo(13)); return;
            case "team": call(name, upTo(7)); return;
            case "cover": call(name, upTo(1 << random.nextInt(9))); return;
            case "secret": call(name, upTo(5)); return;
            case "old": old(); return;
            case "widow": call(name, upTo(1 << random.nextInt(9)), upTo(13)); return;
            case "claim": call(name, upTo(4), upTo(5), upTo(2)); return;
            case "slips": call(name, upTo(11)); return;
            case "rests": call(name, upTo(21)); return;
            case "years": call(name, random.nextInt(), random.nextInt(8) == 0 ? upTo(62) : 1 + upTo(40)); return;
            case "keep": case "again": call(name, upTo(2)); return;
            case "count": call(name, upTo(16)); return;
            case "row": call(name, upTo(6)); return;
            case "end": call(name, upTo(10)); return;
            case "sign": call(name, random.nextInt()); return;
            default: call(name);
        }
    }

    private void old() {
        int v = random.nextInt(30) == 0 ? upTo(161) : even ? 5 * (random.nextInt(9) - 4) : random.nextInt(81) - 40;
        call("old", upTo(1 << random.nextInt(9)), v);
    }

    private void sheet() {
        int f = random.nextInt(4) == 0 ? random.nextInt() : random.nextInt(300) - 20;
        int step = random.nextInt(4) == 0 ? random.nextInt() : random.nextInt(9) - 3;
        call("sheet", upTo(4), random.nextInt(10) == 0 ? -1 - random.nextInt(3) : upTo(13), f, step);
    }

    private void read(String name) {
        StringBuilder text = new StringBuilder(drawText(name));
        if (random.nextInt(8) == 0) {
            spoil(text, name);
        }
        if (random.nextInt(4) > 0) {
            call("end", 0);
        }
        for (int p = 0; p < text.length(); p += 4) {
            int v = 0;
            for (int k = p; k < p + 4; k++) {
                v = v << 8 | (k < text.length() ? text.charAt(k) : 0);
            }
            call("sign", v);
        }
        call("end", text.length());
        call(name);
    }

    private void spoil(StringBuilder text, String name) {
        String signs = "0123456789,;+-abcde()<>=*/sthxncilv" + (char) 0 + (char) 255;
        for (int n = random.nextInt(3); n >= 0; n--) {
            int p = random.nextInt(text.length() + 1);
            char sign = signs.charAt(random.nextInt(signs.length()));
            int kind = random.nextInt(4);
            if (kind == 0) {
                text.insert(p, sign);
            } else if (kind == 1 && p < text.length()) {
                text.setCharAt(p, sign);
            } else if (kind == 2 && p < text.length()) {
                text.deleteCharAt(p);
            } else if (kind == 3) {
                text.append(name.equals("bearers") || name.equals("sayings") ? ";" : "").append(drawText(name));
            }
        }
        if (text.length() > 80) {
            text.setLength(80);
        }
    }

    private String drawText(String name) {
        if (random.nextInt(25) == 0) {
            return "";
        }
        switch (name) {
            case "way": return drawWay();
            case "bearers": return drawBearers();
            case "sayings": return drawSayings();
            case "walk": return drawWalk();
            default: return drawRule();
        }
    }

    private String drawWay() {
        StringBuilder text = new StringBuilder();
        int most = rich ? 2 + random.nextInt(10) : random.nextInt(random.nextInt(12) + 1);
        for (int n = most; n >= 0; n--) {
            text.append(random.nextInt(10));
        }
        return text.toString();
    }

    private int linesBehindFirst() {
        return rich && random.nextInt(10) > 0 ? 2 + random.nextInt(6) : random.nextInt(random.nextInt(8) + 1);
    }

    private String drawBearers() {
        StringBuilder text = new StringBuilder();
        for (int n = linesBehindFirst(); n >= 0; n--) {
            int strength = random.nextInt(90) == 0 ? random.nextInt(60) : 1 + random.nextInt(40);
            text.append(random.nextInt(60) == 0 ? "0" : "").append(strength).append(',');
            text.append(1 + random.nextInt(9)).append(n > 0 ? ";" : "");
        }
        return text.toString();
    }

    private String drawSayings() {
        StringBuilder text = new StringBuilder();
        for (int n = linesBehindFirst(); n >= 0; n--) {
            int heavy = random.nextInt(90) == 0 ? random.nextInt(30) : 1 + random.nextInt(20);
            heavy = even ? 5 + 5 * random.nextInt(2) : heavy;
            text.append(heavy).append(random.nextInt(3) == 0 ? '-' : '+').append(random.nextInt(10));
            for (char who = 'a'; who <= 'd'; who++) {
                text.append(random.nextInt(2) == 0 ? "" : "" + who);
            }
            text.append(n > 0 ? ";" : "");
        }
        return text.toString();
    }

    private String drawWalk() {
        StringBuilder text = new StringBuilder();
        int most = random.nextInt(12) == 0 ? 50 : 9;
        for (int n = random.nextInt(most); n >= 0 && text.length() < 64; n--) {
            switch (random.nextInt(6)) {
                case 0: text.append('t').append(random.nextInt(9)); break;
                case 1: text.append('l').append(random.nextInt(9)); break;
                case 2: text.append('v').append((char) ('a' + random.nextInt(4))); break;
                case 3: text.append('s').append(random.nextInt(9)); break;
                default: text.append('>');
            }
        }
        return text.toString();
    }

    private String drawRule() {
        String text = expression(random.nextInt(8) == 0 ? 4 : 2);
        for (int n = 0; n < 20 && text.length() > 40 && random.nextInt(12) > 0; n++) {
            text = expression(2);
        }
        return text.length() > 60 ? text.substring(0, 60) : text;
    }

    private String expression(int brackets) {
        String text = sum(brackets);
        return random.nextInt(6) == 0 ? text + any("<", ">", "=") + sum(brackets) : text;
    }

    private String sum(int brackets) {
        StringBuilder text = new StringBuilder(product(brackets));
        for (int n = random.nextInt(3); n > 0; n--) {
            text.append(any("+", "-")).append(product(brackets));
        }
        return text.toString();
    }

    private String product(int brackets) {
        StringBuilder text = new StringBuilder(thing(brackets));
        for (int n = random.nextInt(6) / 3; n > 0; n--) {
            text.append(any("*", "/")).append(thing(brackets));
        }
        return text.toString();
    }

    private String thing(int brackets) {
        StringBuilder text = new StringBuilder();
        for (int n = random.nextInt(12); n > 9; n--) {
            text.append('-');
        }
        int kind = random.nextInt(8);
        if (kind == 0) {
            text.append(random.nextInt(random.nextInt(4) == 0 ? 1000 : 12));
        } else if (kind == 1 && brackets > 0) {
            text.append('(').append(expression(brackets - 1)).append(')');
        } else {
            text.append(any("s", "s", "s", "t", "h", "x", "n", "c", "i"));
        }
        return text.toString();
    }
}
