import java.util.ArrayList;
import java.util.Arrays;
import java.util.List;
import java.util.NoSuchElementException;
import java.util.TreeSet;
import java.util.regex.Matcher;
import java.util.regex.Pattern;

/**
 * The document once more, for the tests: everything by trying, on copies, with texts and lists,
 * and by other ways than the class takes, so that a slip in one of them shows.
 */
final class Model {
    private static final String USUAL = "s-t/3-(x-h)";

    private String text = "";
    private List<Long> row = new ArrayList<>();
    private int[] steep = {0};
    private final List<int[]> bearers = new ArrayList<>();
    private final List<int[]> sayings = new ArrayList<>();
    private String rule = USUAL;
    private Now now = new Now();
    private final List<Now> undone = new ArrayList<>();
    private final Now[] kept = new Now[2];
    private final List<int[]> oldWalks = new ArrayList<>();
    private final List<int[]> claims = new ArrayList<>();

    /** What undo() brings back. */
    private static final class Now {
        int at;
        int load = 60;
        int[] tired = new int[8];
        TreeSet<Integer> carrying = new TreeSet<>();
        int seventh;
        TreeSet<Integer> said = new TreeSet<>();
        boolean spoken;
        int staggers;

        Now copy() {
            Now c = new Now();
            c.at = at;
            c.load = load;
            c.tired = tired.clone();
            c.carrying = new TreeSet<>(carrying);
            c.seventh = seventh;
            c.said = new TreeSet<>(said);
            c.spoken = spoken;
            c.staggers = staggers;
            return c;
        }
    }

    /** Any call of the face by its name; a boolean counts 1 or 0. */
    long call(String name, int[] a) {
        switch (name) {
            case "sign": return sign(a[0]);
            case "end": return end(a[0]);
            case "way": return way();
            case "bearers": return readBearers();
            case "sayings": return readSayings();
            case "rule": return readRule();
            case "bearer": return bearer(a[0], a[1]);
            case "saying": return saying(a[0], a[1]);
            case "force": tell(now.load + steepAt(now.at), now.carrying.size()); return force(rule, now.carrying, now);
            case "load": return load(a[0]);
            case "sheet": return sheet(a[0], a[1], a[2], a[3]);
            case "step": return act(">");
            case "take": return act("t" + a[0]);
            case "leave": return act("l" + a[0]);
            case "seventh": return act("v" + a[0]);
            case "say": return act("s" + a[0]);
            case "walk": return walk();
            case "undo": return undo();
            case "ahead": return ahead(a[0]);
            case "first": return now.carrying.isEmpty() ? -3 : first(rule);
            case "bears": return bears();
            case "hush": return hush();
            case "which": return which();
            case "could": return could();
            case "team": return team(a[0]);
            case "fewest": return fewest();
            case "change": return change();
            case "props": return props();
            case "rest": return rest(a[0]);
            case "slant": return slant();
            case "cover": return cover(a[0]);
            case "lighter": return lighter(a[0]);
            case "secret": return secret(a[0]);
            case "best": return best();
            case "old": return old(a[0], a[1]);
            case "forget": { int n = oldWalks.size(); oldWalks.clear(); return n; }
            case "worlds": return worlds();
            case "sure": return sure();
            case "ask": return ask();
            case "widow": return widow(a[0], a[1]);
            case "claim": return claim(a[0], a[1], a[2]);
            case "unsaid": { int n = claims.size(); claims.clear(); return n; }
            case "believe": return believe();
            case "slips": return slips(a[0]);
            case "rests": return rests(a[0]);
            case "law": return law();
            case "years": return years(a[0], a[1]);
            case "keep": return keep(a[0]);
            case "again": return again(a[0]);
            case "count": return count(a[0]);
            case "row": return rowAt(a[0]);
            default: throw new AssertionError(name);
        }
    }

    private void tell(long... numbers) {
        row = new ArrayList<>();
        for (long n : numbers) {
            row.add(n);
        }
    }

    private long rowAt(int i) {
        if (i < 0 || i >= row.size()) {
            throw new NoSuchElementException();
        }
        return row.get(i);
    }

    private static int bits(Iterable<Integer> set) {
        int bits = 0;
        for (int member : set) {
            bits |= 1 << member;
        }
        return bits;
    }

    private static TreeSet<Integer> members(int bits) {
        TreeSet<Integer> set = new TreeSet<>();
        for (int k = 0; k < 31; k++) {
            if ((bits & 1 << k) != 0) {
                set.add(k);
            }
        }
        return set;
    }

    private boolean areSayings(int those) {
        return those >= 0 && those <= (1 << sayings.size()) - 1;
    }

    // ---- texts

    private int sign(int v) {
        if (text.length() + 4 > 80) {
            return -1;
        }
        text += "" + (char) (v >> 24 & 255) + (char) (v >> 16 & 255) + (char) (v >> 8 & 255) + (char) (v & 255);
        return text.length();
    }

    private int end(int n) {
        if (n < 0 || n > text.length()) {
            return 0;
        }
        text = text.substring(0, n);
        return 1;
    }

    /** THE TEXT is this one alone. */
    void text(String t) {
        text = t;
    }

    private String taken() {
        String t = text;
        text = "";
        return t;
    }

    /** The first place whose sign makes that no text of the pattern can begin so; -1: the text is one. */
    private static int patternFault(String t, String pattern, int limit) {
        Pattern compiled = Pattern.compile(pattern, Pattern.DOTALL);
        String seen = t.substring(0, Math.min(limit, t.length()));
        for (int p = 1; p <= seen.length(); p++) {
            Matcher m = compiled.matcher(seen.substring(0, p));
            if (!m.matches() && !m.hitEnd()) {
                return p - 1;
            }
        }
        if (t.length() > limit) {
            return limit;
        }
        return compiled.matcher(t).matches() ? -1 : t.length();
    }

    private static int lesserFault(int one, int other) {
        return one < 0 ? other : other < 0 ? one : Math.min(one, other);
    }

    /** LINES that begin with a number in a range: its fault at the last digit, or that of a LINE too many. */
    private static int lineFault(String t, int room, int most) {
        int begin = 0;
        for (int line = 0; begin <= t.length(); line++) {
            if (line >= room) {
                return begin;
            }
            Matcher m = Pattern.compile("[0-9]{1,2}").matcher(t);
            m.region(begin, t.length());
            if (m.lookingAt()) {
                int value = Integer.parseInt(m.group());
                if (value < 1 || value > most) {
                    return m.end() - 1;
                }
            }
            int semicolon = t.indexOf(';', begin);
            if (semicolon < 0) {
                return -1;
            }
            begin = semicolon + 1;
        }
        return -1;
    }

    private void cameAnew() {
        undone.clear();
        Arrays.fill(kept, null);
    }

    private int way() {
        String t = taken();
        int fault = patternFault(t, "[0-9]{1,12}", 12);
        if (fault >= 0) {
            return -1 - fault;
        }
        steep = new int[t.length()];
        for (int k = 0; k < steep.length; k++) {
            steep[k] = t.charAt(k) - '0';
        }
        now.at = 0;
        now.spoken = false;
        cameAnew();
        return steep.length;
    }

    private int readBearers() {
        String t = taken();
        if (t.isEmpty()) {
            return 0;
        }
        String line = "[0-9]{1,2},[1-9]";
        int fault = lesserFault(patternFault(t, line + "(;" + line + ")*", 48),
                lineFault(t, 8 - bearers.size(), 40));
        if (fault >= 0) {
            return -1 - fault;
        }
        String[] lines = t.split(";");
        for (String l : lines) {
            String[] parts = l.split(",");
            bearers.add(new int[] {Integer.parseInt(parts[0]), Integer.parseInt(parts[1])});
        }
        cameAnew();
        return lines.length;
    }

    private int readSayings() {
        String t = taken();
        if (t.isEmpty()) {
            return 0;
        }
        String line = "[0-9]{1,2}[-+][0-9]a?b?c?d?";
        int fault = lesserFault(patternFault(t, line + "(;" + line + ")*", 76),
                lineFault(t, 8 - sayings.size(), 20));
        if (fault >= 0) {
            return -1 - fault;
        }
        String[] lines = t.split(";");
        for (String l : lines) {
            Matcher m = Pattern.compile("([0-9]+)([-+])([0-9])([a-d]*)").matcher(l);
            m.matches();
            int knowers = 0;
            for (char c : m.group(4).toCharArray()) {
                knowers += 1 << c - 'a';
            }
            sayings.add(new int[] {Integer.parseInt(m.group(1)), m.group(2).equals("+") ? 1 : 0,
                Integer.parseInt(m.group(3)), knowers});
        }
        cameAnew();
        return lines.length;
    }

    private int readRule() {
        String t = taken();
        int fault = ruleFault(t);
        if (fault >= 0) {
            return -1 - fault;
        }
        rule = t.isEmpty() ? USUAL : t;
        return 0;
    }

    private static int ruleFault(String t) {
        if (t.isEmpty()) {
            return -1;
        }
        boolean wantsThing = true;
        int depth = 0;
        int digits = 0;
        boolean[] compared = new boolean[6];
        for (int p = 0; p < Math.min(40, t.length()); p++) {
            char c = t.charAt(p);
            boolean digit = c >= '0' && c <= '9';
            if (wantsThing) {
                if (c == '(' && depth < 4) {
                    depth++;
                    compared[depth] = false;
                } else if (digit || "sthxnci".indexOf(c) >= 0) {
                    digits = digit ? 1 : 3;
                    wantsThing = false;
                } else if (c != '-') {
                    return p;
                }
            } else if (digit && digits < 3) {
                digits++;
            } else if (c == ')' && depth > 0) {
                depth--;
                digits = 3;
            } else if ("+-*/".indexOf(c) >= 0) {
                wantsThing = true;
            } else if ("<>=".indexOf(c) >= 0 && !compared[depth]) {
                compared[depth] = true;
                wantsThing = true;
            } else {
                return p;
            }
        }
        return t.length() > 40 ? 40 : wantsThing || depth > 0 ? t.length() : -1;
    }

    /** By its last sign that binds least, outside of brackets. */
    private static int value(String e, int[] named) {
        int split = -1;
        int splitBinds = 3;
        int depth = 0;
        boolean behindThing = false;
        for (int p = 0; p < e.length(); p++) {
            char c = e.charAt(p);
            if (c == '(') {
                depth++;
                behindThing = false;
            } else if (c == ')') {
                depth--;
                behindThing = true;
            } else if ("<>=+-*/".indexOf(c) >= 0) {
                int binds = "<>=".indexOf(c) >= 0 ? 0 : "+-".indexOf(c) >= 0 ? 1 : 2;
                if (depth == 0 && behindThing && binds <= splitBinds) {
                    split = p;
                    splitBinds = binds;
                }
                behindThing = false;
            } else {
                behindThing = true;
            }
        }
        if (split >= 0) {
            int a = value(e.substring(0, split), named);
            int b = value(e.substring(split + 1), named);
            switch (e.charAt(split)) {
                case '<': return a < b ? 1 : 0;
                case '>': return a > b ? 1 : 0;
                case '=': return a == b ? 1 : 0;
                case '+': return a + b;
                case '-': return a - b;
                case '*': return a * b;
                default: return b == 0 ? 0 : a / b;
            }
        }
        char first = e.charAt(0);
        if (first == '-') {
            return -value(e.substring(1), named);
        }
        if (first == '(') {
            return value(e.substring(1, e.length() - 1), named);
        }
        int name = "sthxnci".indexOf(first);
        return name >= 0 ? named[name] : Integer.parseInt(e);
    }

    private int worth(String by, int bearer, TreeSet<Integer> team, int tired, int at) {
        int tallest = 0;
        for (int b : team) {
            tallest = Math.max(tallest, bearers.get(b)[1]);
        }
        int[] named = {bearers.get(bearer)[0], tired, bearers.get(bearer)[1], tallest, team.size(), steepAt(at), bearer};
        return Math.max(0, Math.min(99, value(by, named)));
    }

    private int force(String by, TreeSet<Integer> team, Now n) {
        int sum = 0;
        for (int b : team) {
            sum += worth(by, b, team, n.tired[b], n.at);
        }
        return sum;
    }

    private int steepAt(int at) {
        return at < steep.length ? steep[at] : 0;
    }

    private int bearer(int b, int what) {
        if (b < 0 || b >= bearers.size() || what < 0 || what > 4) {
            throw new NoSuchElementException();
        }
        TreeSet<Integer> team = new TreeSet<>(now.carrying);
        team.add(b);
        int[] answers = {bearers.get(b)[0], bearers.get(b)[1], now.tired[b], now.carrying.contains(b) ? 1 : 0,
            worth(rule, b, team, now.tired[b], now.at)};
        return answers[what];
    }

    private int saying(int s, int what) {
        if (s < 0 || s >= sayings.size() || what < 0 || what > 5) {
            throw new NoSuchElementException();
        }
        int[] told = sayings.get(s);
        if (what < 4) {
            return told[what];
        }
        return what == 4 ? (now.said.contains(s) ? 1 : 0) : (knows(now.seventh, s) ? 1 : 0);
    }

    private boolean knows(int who, int s) {
        return (sayings.get(s)[3] & 1 << who) != 0;
    }

    private int load(int v) {
        if (v < 0 || v > 999) {
            return -1;
        }
        int was = now.load;
        now.load = v;
        return was;
    }

    private int sheet(int kind, int n, int f, int step) {
        if (kind < 0 || kind > 3 || n > 12) {
            return -1;
        }
        if (kind == 3) {
            Arrays.fill(steep, 0);
            return -3;
        }
        if (n < 0) {
            return -2;
        }
        int entry = f;
        int sum = 0;
        for (int k = 0; k < steep.length; k++) {
            int seen = kind == 0 ? (byte) entry : kind == 1 ? (short) entry : entry;
            steep[k] = k < n ? Math.max(0, Math.min(9, seen)) : 0;
            sum += steep[k];
            entry += step;
        }
        return sum;
    }

    // ---- the walk

    /** One ACT on a state, told as in a walk but with any number. */
    private int doAct(Now n, String told) {
        char kind = told.charAt(0);
        int number = kind == '>' ? 0 : Integer.parseInt(told.substring(1));
        switch (kind) {
            case '>': return stepOn(n, rule);
            case 't':
                if (number < 0 || number >= bearers.size()) {
                    return -1;
                }
                if (n.carrying.contains(number)) {
                    return -2;
                }
                if (n.carrying.size() == 6) {
                    return -3;
                }
                n.carrying.add(number);
                return n.carrying.size();
            case 'l':
                if (number < 0 || number >= bearers.size()) {
                    return -1;
                }
                return n.carrying.remove(number) ? n.carrying.size() : -2;
            case 'v':
                if (number < 0 || number > 3) {
                    return -1;
                }
                int was = n.seventh;
                n.seventh = number;
                return was == number ? -2 : was;
            default:
                return sayOn(n, number);
        }
    }

    private int stepOn(Now n, String by) {
        if (n.at == steep.length) {
            return -2;
        }
        if (n.carrying.isEmpty()) {
            return -3;
        }
        boolean stagger = force(by, n.carrying, n) < n.load + steep[n.at];
        for (int b = 0; b < bearers.size(); b++) {
            if (n.carrying.contains(b)) {
                n.tired[b] = Math.min(99, n.tired[b] + (stagger ? 3 : 1));
            } else {
                n.tired[b] = Math.max(0, n.tired[b] - 2);
            }
        }
        n.at++;
        n.spoken = false;
        n.staggers += stagger ? 1 : 0;
        return stagger ? 1 : 0;
    }

    private int sayOn(Now n, int s) {
        if (s < 0 || s >= sayings.size()) {
            return -1;
        }
        if (n.said.contains(s)) {
            return -2;
        }
        if (!knows(n.seventh, s)) {
            return -3;
        }
        if (n.spoken) {
            return -4;
        }
        if (n.at == steep.length) {
            return -5;
        }
        n.said.add(s);
        n.spoken = true;
        int heavy = sayings.get(s)[0];
        n.load = sayings.get(s)[1] == 1 ? Math.max(0, n.load - heavy) : Math.min(999, n.load + heavy);
        return n.load;
    }

    private void remember(Now before) {
        undone.add(before);
        if (undone.size() > 12) {
            undone.remove(0);
        }
    }

    private int act(String told) {
        Now before = now.copy();
        int answer = doAct(now, told);
        if (answer >= 0) {
            remember(before);
            if (told.equals(">")) {
                tell(now.at, now.staggers);
            }
        }
        return answer;
    }

    private int walk() {
        String t = taken();
        int fault = patternFault(t, "(>|[tls][0-9]|v[a-d])*", 60);
        if (fault >= 0) {
            return -1 - fault;
        }
        Now before = now.copy();
        int done = 0;
        boolean stopped = false;
        Matcher m = Pattern.compile(">|[tls][0-9]|v[a-d]").matcher(t);
        while (!stopped && m.find()) {
            String told = m.group();
            if (told.charAt(0) == 'v') {
                told = "v" + (told.charAt(1) - 'a');
            }
            stopped = doAct(now, told) < 0;
            done += stopped ? 0 : 1;
        }
        if (done > 0) {
            remember(before);
        }
        tell(stopped ? 1 : 0, now.staggers - before.staggers);
        return done;
    }

    private int undo() {
        if (undone.isEmpty()) {
            return -1;
        }
        now = undone.remove(undone.size() - 1);
        return undone.size();
    }

    // ---- how far

    private int ahead(int n) {
        if (now.carrying.isEmpty()) {
            return -3;
        }
        if (n < 0 || n > 12) {
            return -1;
        }
        Now trial = now.copy();
        for (int k = 0; k < n; k++) {
            stepOn(trial, rule);
        }
        tell(trial.at, Arrays.stream(trial.tired).sum());
        return trial.staggers - now.staggers;
    }

    private int first(String by) {
        Now trial = now.copy();
        while (trial.at < steep.length) {
            int corner = trial.at;
            if (stepOn(trial, by) == 1) {
                return corner;
            }
        }
        return -2;
    }

    private int bears() {
        if (now.carrying.isEmpty()) {
            return -3;
        }
        int was = now.load;
        int answer = -2;
        for (int v = 999; v >= 0 && answer < 0; v--) {
            now.load = v;
            if (first(rule) == -2) {
                answer = v;
            }
        }
        now.load = was;
        return answer;
    }

    /** Rows with so many SAYINGS are tried from the least on: something is SAID here sooner than later. */
    private List<Long> hushed(Now n, int number) {
        if (n.at == steep.length) {
            return number == 0 ? new ArrayList<>() : null;
        }
        if (number > 0) {
            for (int s = 0; s < sayings.size(); s++) {
                Now trial = n.copy();
                if (sayOn(trial, s) >= 0 && stepOn(trial, rule) == 0) {
                    List<Long> rest = hushed(trial, number - 1);
                    if (rest != null) {
                        rest.add(0, (long) s);
                        rest.add(0, (long) n.at);
                        return rest;
                    }
                }
            }
        }
        Now trial = n.copy();
        return stepOn(trial, rule) == 0 ? hushed(trial, number) : null;
    }

    private List<Long> hushedBy(int who) {
        for (int number = 0; number <= 3; number++) {
            Now trial = now.copy();
            trial.seventh = who;
            List<Long> found = hushed(trial, number);
            if (found != null) {
                return found;
            }
        }
        return null;
    }

    private int hush() {
        if (now.carrying.isEmpty()) {
            return -3;
        }
        List<Long> found = hushedBy(now.seventh);
        if (found == null) {
            return -2;
        }
        row = found;
        return found.size() / 2;
    }

    private int which() {
        if (now.carrying.isEmpty()) {
            return -3;
        }
        long[] each = new long[4];
        int best = -2;
        for (int who = 3; who >= 0; who--) {
            List<Long> found = hushedBy(who);
            each[who] = found == null ? -2 : found.size() / 2;
            if (found != null && (best < 0 || each[who] <= each[best])) {
                best = who;
            }
        }
        if (best >= 0) {
            tell(each);
        }
        return best;
    }

    private int could() {
        int those = 0;
        int least = -1;
        int load = now.load;
        for (int s = sayings.size() - 1; s >= 0; s--) {
            Now trial = now.copy();
            if (sayOn(trial, s) >= 0) {
                those += 1 << s;
                if (least < 0 || trial.load <= load) {
                    least = s;
                    load = trial.load;
                }
            }
        }
        tell(least, load);
        return those;
    }

    // ---- teams

    private int needed() {
        return now.load + steepAt(now.at);
    }

    private int team(int k) {
        if (k < 1 || k > 6) {
            return -1;
        }
        if (bearers.size() < k) {
            return -2;
        }
        int most = -1;
        for (int set = (1 << bearers.size()) - 1; set > 0; set--) {
            if (members(set).size() == k && force(rule, members(set), now) >= most) {
                most = force(rule, members(set), now);
                tell(set);
            }
        }
        return most;
    }

    private int fewest() {
        int best = 0;
        for (int set = 1; set < 1 << bearers.size(); set++) {
            TreeSet<Integer> team = members(set);
            int force = force(rule, team, now);
            if (team.size() <= 6 && force >= needed()) {
                TreeSet<Integer> former = members(best);
                if (best == 0 || team.size() < former.size()
                        || team.size() == former.size() && force > force(rule, former, now)) {
                    best = set;
                }
            }
        }
        if (best == 0) {
            return -2;
        }
        tell(best, force(rule, members(best), now));
        return members(best).size();
    }

    private int change() {
        int most = -2;
        for (int off = 7; off >= 0; off--) {
            for (int on = 7; on >= 0; on--) {
                Now trial = now.copy();
                if (doAct(trial, "l" + off) >= 0 && on != off && doAct(trial, "t" + on) >= 0) {
                    int force = force(rule, trial.carrying, trial);
                    if (force >= most) {
                        most = force;
                        tell(off, on);
                    }
                }
            }
        }
        return most;
    }

    private int props() {
        TreeSet<Integer> those = new TreeSet<>();
        for (int b : now.carrying) {
            TreeSet<Integer> others = new TreeSet<>(now.carrying);
            others.remove(b);
            if (force(rule, others, now) < needed()) {
                those.add(b);
            }
        }
        tell(those.size());
        return bits(those);
    }

    private int rest(int b) {
        if (b < 0 || b >= bearers.size()) {
            return -1;
        }
        int steps = 0;
        for (int tired = now.tired[b]; tired > 0; tired -= 2) {
            steps++;
        }
        tell(worth(rule, b, members(1 << b), 0, now.at));
        return steps;
    }

    private int slant() {
        int most = -2;
        for (int one : now.carrying) {
            for (int two : now.carrying) {
                int difference = bearers.get(one)[1] - bearers.get(two)[1];
                difference = difference < 0 ? -difference : difference;
                if (one < two && difference > most) {
                    most = difference;
                    tell(one, two);
                }
            }
        }
        return most;
    }

    // ---- who knows

    private int cover(int those) {
        if (!areSayings(those)) {
            return -1;
        }
        int best = -1;
        for (int set = 15; set >= 0; set--) {
            boolean all = true;
            for (int s : members(those)) {
                boolean known = false;
                for (int who : members(set)) {
                    known |= knows(who, s);
                }
                all &= known;
            }
            if (all && (best < 0 || Integer.bitCount(set) <= Integer.bitCount(best))) {
                best = set;
            }
        }
        if (best < 0) {
            return -2;
        }
        tell(best);
        return Integer.bitCount(best);
    }

    private int lighter(int who) {
        if (who < 0 || who > 3) {
            return -1;
        }
        int sum = 0;
        TreeSet<Integer> those = new TreeSet<>();
        for (int s = 0; s < sayings.size(); s++) {
            if (knows(who, s) && !now.said.contains(s) && sayings.get(s)[1] == 1) {
                those.add(s);
                sum += sayings.get(s)[0];
            }
        }
        tell(bits(those));
        return sum;
    }

    private int secret(int k) {
        if (k < 0 || k > 4) {
            return -1;
        }
        int sum = 0;
        TreeSet<Integer> those = new TreeSet<>();
        for (int s = 0; s < sayings.size(); s++) {
            if (members(sayings.get(s)[3]).size() == k) {
                those.add(s);
                sum += sayings.get(s)[0];
            }
        }
        tell(those.size(), sum);
        return bits(those);
    }

    private int best() {
        int best = -1;
        int most = 0;
        int fewest = 0;
        for (int who = 3; who >= 0; who--) {
            int much = lighter(who);
            int wrong = 0;
            for (int s = 0; s < sayings.size(); s++) {
                wrong += knows(who, s) && !now.said.contains(s) && sayings.get(s)[1] == 0 ? 1 : 0;
            }
            if (best < 0 || much > most || much == most && wrong <= fewest) {
                best = who;
                most = much;
                fewest = wrong;
            }
        }
        tell(most, fewest);
        return best;
    }

    // ---- worlds

    private int old(int those, int v) {
        if (!areSayings(those) || v < -160 || v > 160 || oldWalks.size() == 8) {
            return -1;
        }
        oldWalks.add(new int[] {those, v});
        return oldWalks.size();
    }

    private List<Integer> fitting() {
        List<Integer> all = new ArrayList<>();
        for (int world = 0; world < 1 << sayings.size(); world++) {
            boolean fits = true;
            for (int[] walk : oldWalks) {
                int lighter = 0;
                for (int s : members(walk[0])) {
                    lighter += members(world).contains(s) ? sayings.get(s)[0] : -sayings.get(s)[0];
                }
                fits &= lighter == walk[1];
            }
            if (fits) {
                all.add(world);
            }
        }
        return all;
    }

    private int worlds() {
        List<Integer> all = fitting();
        tell(all.isEmpty() ? -1 : all.get(0));
        return all.size();
    }

    private int sure() {
        List<Integer> all = fitting();
        int yes = 0;
        int no = 0;
        for (int s = 0; s < sayings.size() && !all.isEmpty(); s++) {
            int times = timesTrue(all, s);
            yes += times == all.size() ? 1 << s : 0;
            no += times == 0 ? 1 << s : 0;
        }
        tell(no);
        return yes;
    }

    private static int timesTrue(List<Integer> worlds, int s) {
        int times = 0;
        for (int world : worlds) {
            times += members(world).contains(s) ? 1 : 0;
        }
        return times;
    }

    private int ask() {
        List<Integer> all = fitting();
        int best = -2;
        int fewest = 1000;
        for (int s = 0; s < sayings.size() && !all.isEmpty(); s++) {
            int left = Math.max(timesTrue(all, s), all.size() - timesTrue(all, s));
            if (left < fewest) {
                best = s;
                fewest = left;
            }
        }
        if (best >= 0) {
            tell(fewest);
        }
        return best;
    }

    // ---- the widow, claims

    private int widow(int those, int e) {
        if (!areSayings(those) || e < 0 || e > 12) {
            return -1;
        }
        TreeSet<Integer> left = members(those);
        for (int s : left) {
            if (now.said.contains(s)) {
                return -3;
            }
        }
        if (left.size() > 6) {
            return -3;
        }
        if (now.at + left.size() > steep.length) {
            return -2;
        }
        List<List<Integer>> orders = new ArrayList<>();
        addOrders(new ArrayList<>(), left, orders);
        int least = 1000;
        List<Integer> best = null;
        for (List<Integer> order : orders) {
            int harm = 0;
            for (int k = 0; k < order.size(); k++) {
                harm += now.at + k >= e ? sayings.get(order.get(k))[2] : 0;
            }
            if (harm < least) {
                least = harm;
                best = order;
            }
        }
        row = new ArrayList<>();
        for (int s : best) {
            row.add((long) s);
        }
        return least;
    }

    private static void addOrders(List<Integer> begun, TreeSet<Integer> left, List<List<Integer>> orders) {
        if (left.isEmpty()) {
            orders.add(begun);
        }
        for (int s : left) {
            List<Integer> longer = new ArrayList<>(begun);
            longer.add(s);
            TreeSet<Integer> fewer = new TreeSet<>(left);
            fewer.remove(s);
            addOrders(longer, fewer, orders);
        }
    }

    private int claim(int who, int saying, int is) {
        if (who < 0 || who > 3 || saying < 0 || saying >= sayings.size() || is < 0 || is > 1 || claims.size() == 16) {
            return -1;
        }
        claims.add(new int[] {who, saying, is});
        return claims.size();
    }

    private int believe() {
        int best = 15;
        for (int set = 15; set >= 0; set--) {
            boolean agree = true;
            for (int[] one : claims) {
                for (int[] two : claims) {
                    boolean believed = (set & 1 << one[0]) == 0 && (set & 1 << two[0]) == 0;
                    agree &= !believed || one[1] != two[1] || one[2] == two[2];
                }
            }
            if (agree && Integer.bitCount(set) <= Integer.bitCount(best)) {
                best = set;
            }
        }
        tell(best);
        return Integer.bitCount(best);
    }

    // ---- slips, bids, rules, walks

    private int slips(int p) {
        if (p < 0 || p > 10) {
            return -1;
        }
        if (now.carrying.isEmpty()) {
            return -3;
        }
        long upper = standing(new ArrayList<>(now.carrying), new TreeSet<>(), p);
        long lower = (long) Math.pow(10, now.carrying.size());
        for (long d = lower; d > 1; d--) {
            if (upper % d == 0 && lower % d == 0) {
                upper /= d;
                lower /= d;
            }
        }
        tell(upper, lower);
        return 0;
    }

    private long standing(List<Integer> open, TreeSet<Integer> stand, int p) {
        if (open.isEmpty()) {
            return force(rule, stand, now) < needed() ? 0 : 1;
        }
        TreeSet<Integer> more = new TreeSet<>(stand);
        more.add(open.get(0));
        List<Integer> rest = open.subList(1, open.size());
        return p * standing(rest, stand, p) + (10 - p) * standing(rest, more, p);
    }

    private int rests(int v) {
        if (v < 0 || v > 20) {
            return -1;
        }
        int pairs = 0;
        tell();
        for (int a = 9; a >= 0; a--) {
            for (int b = 9; b >= 0; b--) {
                boolean stays = true;
                for (int c = 0; c <= 9; c++) {
                    stays &= gets(c, b, v) <= gets(a, b, v) && gets(c, a, v) <= gets(b, a, v);
                }
                if (stays) {
                    pairs++;
                    tell(a, b);
                }
            }
        }
        return pairs;
    }

    private static int gets(int asks, int other, int v) {
        int has = asks < other ? asks : asks == other ? asks / 2 : 0;
        return Math.min(has, v);
    }

    private int law() {
        String t = taken();
        int fault = ruleFault(t);
        if (fault >= 0) {
            return -10000 - fault;
        }
        if (now.carrying.isEmpty()) {
            return -20000;
        }
        int by = first(t.isEmpty() ? USUAL : t);
        int usual = first(rule);
        by = by < 0 ? 12 : by;
        usual = usual < 0 ? 12 : usual;
        tell(by, usual);
        return by - usual;
    }

    private int years(int seed, int n) {
        if (n < 1 || n > 60) {
            return -1;
        }
        Now trial = now.copy();
        int[] r = {seed};
        for (int k = 0; k < n; k++) {
            int what = draw(r, 4);
            if (what == 0) {
                stepOn(trial, rule);
            } else if (what == 1 && !bearers.isEmpty()) {
                int b = draw(r, bearers.size());
                doAct(trial, (trial.carrying.contains(b) ? "l" : "t") + b);
            } else if (what == 2 && !sayings.isEmpty()) {
                sayOn(trial, draw(r, sayings.size()));
            } else if (what == 3) {
                trial.seventh = trial.seventh == 3 ? 0 : trial.seventh + 1;
            }
        }
        tell(trial.at, trial.load);
        return trial.staggers - now.staggers;
    }

    private static int draw(int[] r, int n) {
        r[0] = r[0] * 1103515245 + 12345;
        return (int) (((long) r[0] & 0xffffffffL) / 65536 % n);
    }

    // ---- kept

    private int keep(int i) {
        if (i < 0 || i > 1) {
            return 0;
        }
        kept[i] = now.copy();
        return 1;
    }

    private int again(int i) {
        if (i < 0 || i > 1 || kept[i] == null) {
            return 0;
        }
        now = kept[i].copy();
        undone.clear();
        return 1;
    }

    private int count(int what) {
        int[] all = {steep.length, bearers.size(), sayings.size(), now.at, now.load, bits(now.carrying), now.seventh,
            bits(now.said), now.spoken ? 1 : 0, now.staggers, oldWalks.size(), claims.size(), undone.size(),
            row.size(), text.length(), now.said.size()};
        return what < 0 || what >= all.length ? -1 : all[what];
    }
}
