import java.util.NoSuchElementException;

/**
 * Six to carry, and one to be believed: a funeral on its way to the hill, with what is said behind
 * the coffin and what that does to its LOAD. The document's words are written in capitals here too.
 */
public final class SixToCarry {
    public static final int NONE = -1;

    private static final int MOST_CORNERS = 12;
    private static final int MOST_STEEP = 9;
    private static final int MOST_BEARERS = 8;
    private static final int MOST_CARRYING = 6;
    private static final int MOST_TIRED = 99;
    private static final int MOST_SAYINGS = 8;
    private static final int MOST_LOAD = 999;
    private static final int SEVENTHS = 4;
    private static final int MOST_ACTS = 60;
    private static final int LAW_FAULT = -10000;
    private static final int LAW_NOBODY = -20000;

    private final Text text;
    private final Row row;
    private final Way way;
    private final Bearers bearers;
    private final Sayings sayings;
    private final State now;
    private final History history;
    private final Outlook outlook;
    private final Teams teams;
    private final Hearsay hearsay;
    private final int[] acts;
    private Rule rule;
    private Rule otherRule;

    public SixToCarry() {
        text = new Text();
        row = new Row();
        way = new Way();
        bearers = new Bearers(way);
        sayings = new Sayings();
        now = new State();
        history = new History();
        outlook = new Outlook(way, bearers, sayings, row);
        teams = new Teams(way, bearers, row);
        hearsay = new Hearsay(sayings, row);
        acts = new int[MOST_ACTS];
        rule = new Rule();
        otherRule = new Rule();
    }

    // ---- the way, bearers, sayings

    public int sign(int v) {
        return text.append(v);
    }

    public boolean end(int n) {
        return text.shorten(n);
    }

    public int way() {
        int fault = way.read(text);
        if (fault >= 0) {
            return -1 - fault;
        }
        now.at = 0;
        now.spoken = false;
        history.forgetAll();
        return way.corners;
    }

    public int bearers() {
        if (text.size() == 0) {
            return 0;
        }
        int lines = bearers.readLines(text);
        int fault = text.close();
        if (fault >= 0) {
            return -1 - fault;
        }
        bearers.number += lines;
        history.forgetAll();
        return lines;
    }

    public int sayings() {
        if (text.size() == 0) {
            return 0;
        }
        int lines = sayings.readLines(text);
        int fault = text.close();
        if (fault >= 0) {
            return -1 - fault;
        }
        sayings.number += lines;
        history.forgetAll();
        return lines;
    }

    public int rule() {
        int fault = otherRule.read(text);
        if (fault >= 0) {
            return -1 - fault;
        }
        Rule former = rule;
        rule = otherRule;
        otherRule = former;
        return 0;
    }

    public int bearer(int bearer, int what) throws NoSuchElementException {
        if (!bearers.has(bearer)) {
            throw new NoSuchElementException("no such bearer");
        }
        switch (what) {
            case 0:
                return bearers.strength[bearer];
            case 1:
                return bearers.height[bearer];
            case 2:
                return now.tired[bearer];
            case 3:
                return now.carrying >> bearer & 1;
            case 4:
                return bearers.worth(rule, bearer, now.carrying | 1 << bearer, now.tired[bearer], now.at);
            default:
                throw new NoSuchElementException("nothing such of a bearer");
        }
    }

    public int saying(int saying, int what) throws NoSuchElementException {
        if (!sayings.has(saying)) {
            throw new NoSuchElementException("no such saying");
        }
        switch (what) {
            case 0:
                return sayings.heavy[saying];
            case 1:
                return sayings.isTrue(saying) ? 1 : 0;
            case 2:
                return sayings.harm[saying];
            case 3:
                return sayings.knowers[saying];
            case 4:
                return now.said >> saying & 1;
            case 5:
                return sayings.knowers[saying] >> now.seventh & 1;
            default:
                throw new NoSuchElementException("nothing such of a saying");
        }
    }

    public int force() {
        row.tell(now.load + way.steepAt(now.at), Integer.bitCount(now.carrying));
        return bearers.forceOf(rule, now.carrying, now);
    }

    public int load(int v) {
        if (v < 0 || v > MOST_LOAD) {
            return NONE;
        }
        int was = now.load;
        now.load = v;
        return was;
    }

    public int sheet(int kind, int n, int f, int step) {
        if (kind < Way.BYTES || kind > Way.MISSING || n > MOST_CORNERS) {
            return NONE;
        }
        if (kind == Way.MISSING) {
            way.copySheet(kind, 0, f, step);
            return -3;
        }
        if (n < 0) {
            return -2;
        }
        way.copySheet(kind, n, f, step);
        return way.steepInAll();
    }

    // ---- the walk

    public int step() {
        history.mark(now);
        int answer = history.settle(now.advance(way, bearers, rule));
        if (answer >= 0) {
            row.tell(now.at, now.staggers);
        }
        return answer;
    }

    public int take(int bearer) {
        history.mark(now);
        return history.settle(now.takeHold(bearers, bearer));
    }

    public int leave(int bearer) {
        history.mark(now);
        return history.settle(now.letGo(bearers, bearer));
    }

    public int seventh(int who) {
        history.mark(now);
        return history.settle(now.follow(who));
    }

    public int say(int saying) {
        history.mark(now);
        return history.settle(now.speak(way, sayings, saying));
    }

    public int walk() {
        int told = readActs();
        int fault = text.close();
        if (fault >= 0) {
            return -1 - fault;
        }
        history.mark(now);
        int staggersAhead = now.staggers;
        int done = 0;
        while (done < told && perform(acts[done]) >= 0) {
            done++;
        }
        if (done > 0) {
            history.settle(done);
        }
        row.tell(done < told ? 1 : 0, now.staggers - staggersAhead);
        return done;
    }

    /** An ACT is held as its sign, four bits up, and the number told behind it. */
    private int readActs() {
        text.open(MOST_ACTS);
        int told = 0;
        while (told < MOST_ACTS && text.peek() != Text.END) {
            acts[told] = readAct();
            told++;
        }
        return told;
    }

    private int readAct() {
        int kind = text.peek();
        switch (kind) {
            case '>':
                text.skip();
                return kind << 4;
            case 't':
            case 'l':
            case 's':
                text.skip();
                return kind << 4 | text.readNumber(1, 0, 9);
            case 'v':
                text.skip();
                int who = text.passSeventh(0);
                if (who >= 0) {
                    return kind << 4 | who;
                }
                break;
            default:
                break;
        }
        text.refuse();
        return 0;
    }

    private int perform(int act) {
        int number = act & 15;
        switch (act >> 4) {
            case '>':
                return now.advance(way, bearers, rule);
            case 't':
                return now.takeHold(bearers, number);
            case 'l':
                return now.letGo(bearers, number);
            case 'v':
                return now.follow(number);
            case 's':
                return now.speak(way, sayings, number);
            default:
                return NONE;
        }
    }

    public int undo() {
        return history.bringBack(now);
    }

    // ---- how far

    public int ahead(int n) {
        if (now.carrying == 0) {
            return -3;
        }
        if (n < 0 || n > MOST_CORNERS) {
            return NONE;
        }
        return outlook.staggersAhead(now, rule, n);
    }

    public int first() {
        return now.carrying == 0 ? -3 : outlook.firstStagger(now, rule);
    }

    public int bears() {
        return now.carrying == 0 ? -3 : outlook.mostLoad(now, rule);
    }

    public int hush() {
        return now.carrying == 0 ? -3 : outlook.fewestSayings(now, rule);
    }

    public int which() {
        return now.carrying == 0 ? -3 : outlook.bestSeventh(now, rule);
    }

    public int could() {
        return outlook.sayable(now);
    }

    // ---- teams

    public int team(int k) {
        if (k < 1 || k > MOST_CARRYING) {
            return NONE;
        }
        return k > bearers.number ? -2 : teams.strongest(now, rule, k);
    }

    public int fewest() {
        return teams.smallest(now, rule);
    }

    public int change() {
        return teams.bestChange(now, rule);
    }

    public int props() {
        return teams.needed(now, rule);
    }

    public int rest(int bearer) {
        if (!bearers.has(bearer)) {
            return NONE;
        }
        row.tell(bearers.worth(rule, bearer, 1 << bearer, 0, now.at));
        return (now.tired[bearer] + 1) / 2;
    }

    public int slant() {
        return teams.mostUneven(now);
    }

    // ---- who knows

    public int cover(int those) {
        return sayings.holds(those) ? hearsay.fewestKnowers(those) : NONE;
    }

    public int lighter(int who) {
        if (who < 0 || who >= SEVENTHS) {
            return NONE;
        }
        int those = sayings.truths & sayings.knownTo(who) & ~now.said;
        row.tell(those);
        return sayings.weightOf(those);
    }

    public int secret(int k) {
        return k < 0 || k > SEVENTHS ? NONE : hearsay.knownToJust(k);
    }

    public int best() {
        return hearsay.mostLightening(now.said);
    }

    // ---- worlds

    public int old(int those, int v) {
        return sayings.holds(those) ? hearsay.addOldWalk(those, v) : NONE;
    }

    public int forget() {
        return hearsay.forgetOldWalks();
    }

    public int worlds() {
        return hearsay.countWorlds();
    }

    public int sure() {
        return hearsay.trueInAll();
    }

    public int ask() {
        return hearsay.bestQuestion();
    }

    // ---- the widow, claims

    public int widow(int those, int e) {
        if (!sayings.holds(those) || e < 0 || e > MOST_CORNERS) {
            return NONE;
        }
        int number = Integer.bitCount(those);
        if (number > 6 || (those & now.said) != 0) {
            return -3;
        }
        if (number > way.corners - now.at) {
            return -2;
        }
        int unheard = Math.max(0, Math.min(number, e - now.at));
        return hearsay.leastHarm(those, unheard);
    }

    public int claim(int who, int saying, int is) {
        if (who < 0 || who >= SEVENTHS || !sayings.has(saying) || is < 0 || is > 1) {
            return NONE;
        }
        return hearsay.addClaim(who, saying, is);
    }

    public int unsaid() {
        return hearsay.takeClaimsBack();
    }

    public int believe() {
        return hearsay.fewestDisbelieved();
    }

    // ---- slips, bids, rules, walks

    public int slips(int p) {
        if (p < 0 || p > 10) {
            return NONE;
        }
        return now.carrying == 0 ? -3 : teams.chanceToStand(now, rule, p);
    }

    public int rests(int v) {
        if (v < 0 || v > 20) {
            return NONE;
        }
        int found = 0;
        row.clear();
        for (int one = 0; one <= 9; one++) {
            for (int other = 0; other <= 9; other++) {
                if (isBestBid(one, other, v) && isBestBid(other, one, v)) {
                    if (found == 0) {
                        row.tell(one, other);
                    }
                    found++;
                }
            }
        }
        return found;
    }

    private static boolean isBestBid(int mine, int yours, int v) {
        int has = bidGets(mine, yours, v);
        for (int another = 0; another <= 9; another++) {
            if (bidGets(another, yours, v) > has) {
                return false;
            }
        }
        return true;
    }

    private static int bidGets(int mine, int yours, int v) {
        if (mine > yours) {
            return 0;
        }
        return Math.min(v, mine == yours ? mine / 2 : mine);
    }

    public int law() {
        int fault = otherRule.read(text);
        if (fault >= 0) {
            return LAW_FAULT - fault;
        }
        if (now.carrying == 0) {
            return LAW_NOBODY;
        }
        int byOther = cornerOrTwelve(outlook.firstStagger(now, otherRule));
        int byRule = cornerOrTwelve(outlook.firstStagger(now, rule));
        row.tell(byOther, byRule);
        return byOther - byRule;
    }

    private static int cornerOrTwelve(int corner) {
        return corner < 0 ? 12 : corner;
    }

    public int years(int seed, int n) {
        return n < 1 || n > MOST_ACTS ? NONE : outlook.staggersDrawn(now, rule, seed, n);
    }

    // ---- kept

    public boolean keep(int i) {
        return history.keepUnder(i, now);
    }

    public boolean again(int i) {
        return history.bringBackKept(i, now);
    }

    public int count(int what) {
        switch (what) {
            case 0:
                return way.corners;
            case 1:
                return bearers.number;
            case 2:
                return sayings.number;
            case 3:
                return now.at;
            case 4:
                return now.load;
            case 5:
                return now.carrying;
            case 6:
                return now.seventh;
            case 7:
                return now.said;
            case 8:
                return now.spoken ? 1 : 0;
            case 9:
                return now.staggers;
            case 10:
                return hearsay.oldWalks;
            case 11:
                return hearsay.claims;
            case 12:
                return history.number;
            case 13:
                return row.size();
            case 14:
                return text.size();
            case 15:
                return Integer.bitCount(now.said);
            default:
                return NONE;
        }
    }

    public long row(int i) throws NoSuchElementException {
        if (i < 0 || i >= row.size()) {
            throw new NoSuchElementException("no such number in the row");
        }
        return row.at(i);
    }

    private static int within(int value, int least, int most) {
        return value < least ? least : value > most ? most : value;
    }

    /** The numbers told last. */
    private static final class Row {
        private final long[] numbers = new long[8];
        private int size;

        void clear() {
            size = 0;
        }

        void add(long number) {
            if (size < numbers.length) {
                numbers[size] = number;
                size++;
            }
        }

        void tell(long only) {
            clear();
            add(only);
        }

        void tell(long one, long two) {
            tell(one);
            add(two);
        }

        /** Numbers of a set, rising, behind those told already. */
        void addMembers(int set) {
            for (int member = 0; member < MOST_SAYINGS; member++) {
                if ((set >> member & 1) != 0) {
                    add(member);
                }
            }
        }

        int size() {
            return size;
        }

        long at(int i) {
            return i >= 0 && i < size ? numbers[i] : NONE;
        }
    }

    /** THE TEXT, and the place up to which a call has read it. */
    private static final class Text {
        static final int ROOM = 80;
        static final int END = -1;

        private final char[] signs = new char[ROOM];
        private int size;
        private int place;
        private int end;
        private int fault;

        int size() {
            return size;
        }

        int append(int v) {
            if (size > ROOM - 4) {
                return NONE;
            }
            for (int shift = 24; shift >= 0; shift -= 8) {
                signs[size] = (char) (v >>> shift & 255);
                size++;
            }
            return size;
        }

        boolean shorten(int n) {
            if (n < 0 || n > size) {
                return false;
            }
            size = n;
            return true;
        }

        /** Reading begins; no sign from the limit on is seen. */
        void open(int limit) {
            place = 0;
            end = Math.min(size, limit);
            fault = NONE;
        }

        /** Behind a fault there is nothing more to see, so that every reader comes to its end. */
        int peek() {
            return fault >= 0 || place >= end ? END : signs[place];
        }

        void skip() {
            if (place < end) {
                place++;
            }
        }

        boolean passes(int sign) {
            boolean is = peek() == sign;
            if (is) {
                skip();
            }
            return is;
        }

        void require(int sign) {
            if (!passes(sign)) {
                refuse();
            }
        }

        /** The sign at which the reader is can't stand there; the first such place counts. */
        void refuse() {
            if (fault < 0) {
                fault = place;
            }
        }

        int readNumber(int mostDigits, int least, int most) {
            int value = 0;
            int digits = 0;
            for (int sign = peek(); digits < mostDigits && sign >= '0' && sign <= '9'; sign = peek()) {
                value = value * 10 + (sign - '0');
                digits++;
                skip();
            }
            if (digits == 0) {
                refuse();
            } else if (value < least || value > most) {
                fault = place - 1;
            }
            return value;
        }

        /** A letter a .. d as 0 .. 3, if there is one that is not below the least; else NONE. */
        int passSeventh(int least) {
            int who = peek() - 'a';
            if (who < least || who >= SEVENTHS) {
                return NONE;
            }
            skip();
            return who;
        }

        /** Reading ends, THE TEXT is empty: the place of the first sign that can't stand, or NONE. */
        int close() {
            int found = fault;
            if (found < 0 && place < end) {
                found = place;
            }
            if (found < 0 && end < size) {
                found = end;
            }
            size = 0;
            return found;
        }
    }

    /** How much one carries: an EXPRESSION, held as steps for a stack of numbers. */
    private static final class Rule {
        private static final int MOST_SIGNS = 40;
        private static final int MOST_BRACKETS = 4;
        private static final int MOST_WORTH = 99;
        private static final String NAMES = "sthxnci";
        /** Steps: below this a NUMBER; from it on a name; behind the names a sign that joins. */
        private static final int NAME = 1000;
        private static final int SIGN = 2000;
        private static final int NEGATE = SIGN;
        /** Signs that join, by how much they bind; a thing is joined no more. */
        private static final int COMPARISON = 0;
        private static final int SUM = 1;
        private static final int PRODUCT = 2;
        private static final int THING = 3;

        private final int[] steps = new int[MOST_SIGNS];
        private final int[] stack = new int[MOST_SIGNS];
        private final int[] named = new int[7];
        private int size;

        /** What it tells of a BEARER: its own s, t, h and number i; x, n of those that carry; c of the place. */
        int tell(int s, int t, int h, int x, int n, int c, int i) {
            if (size == 0) {
                return within(s - t / 3 - (x - h), 0, MOST_WORTH);
            }
            named[0] = s;
            named[1] = t;
            named[2] = h;
            named[3] = x;
            named[4] = n;
            named[5] = c;
            named[6] = i;
            return within(compute(), 0, MOST_WORTH);
        }

        private int compute() {
            int height = 0;
            for (int k = 0; k < size; k++) {
                int step = steps[k];
                if (step == NEGATE) {
                    if (height > 0) {
                        stack[height - 1] = -stack[height - 1];
                    }
                } else if (step > SIGN) {
                    if (height > 1) {
                        height--;
                        stack[height - 1] = joined(step - SIGN, stack[height - 1], stack[height]);
                    }
                } else if (height < stack.length) {
                    stack[height] = step < NAME ? step : valueOf(step - NAME);
                    height++;
                }
            }
            return stack[0];
        }

        private int valueOf(int name) {
            return name >= 0 && name < named.length ? named[name] : 0;
        }

        private static int joined(int sign, int a, int b) {
            switch (sign) {
                case '<':
                    return a < b ? 1 : 0;
                case '>':
                    return a > b ? 1 : 0;
                case '=':
                    return a == b ? 1 : 0;
                case '+':
                    return a + b;
                case '-':
                    return a - b;
                case '*':
                    return a * b;
                default:
                    return b == 0 ? 0 : a / b;
            }
        }

        /** The place of the first sign that can't stand, or NONE; an empty text: the usual rule. */
        int read(Text text) {
            size = 0;
            text.open(MOST_SIGNS);
            if (text.size() > 0) {
                readJoined(text, COMPARISON, 0);
            }
            return text.close();
        }

        /** What is joined by signs of a level has parts joined by those that bind more; the last level is a thing. */
        private void readJoined(Text text, int level, int depth) {
            if (level >= THING) {
                readThing(text, depth);
                return;
            }
            readJoined(text, level + 1, depth);
            int most = level == COMPARISON ? 1 : MOST_SIGNS;
            for (int n = 0; n < most && levelOf(text.peek()) == level; n++) {
                int sign = text.peek();
                text.skip();
                readJoined(text, level + 1, depth);
                add(SIGN + sign);
            }
        }

        private static int levelOf(int sign) {
            switch (sign) {
                case '<':
                case '>':
                case '=':
                    return COMPARISON;
                case '+':
                case '-':
                    return SUM;
                case '*':
                case '/':
                    return PRODUCT;
                default:
                    return THING;
            }
        }

        private void readThing(Text text, int depth) {
            boolean negative = false;
            for (int n = 0; n < MOST_SIGNS && text.passes('-'); n++) {
                negative = !negative;
            }
            int sign = text.peek();
            if (sign >= '0' && sign <= '9') {
                add(text.readNumber(3, 0, NAME - 1));
            } else if (sign == '(' && depth < MOST_BRACKETS) {
                text.skip();
                readJoined(text, COMPARISON, depth + 1);
                text.require(')');
            } else {
                readName(text, sign);
            }
            if (negative) {
                add(NEGATE);
            }
        }

        private void readName(Text text, int sign) {
            int name = sign < 0 ? NONE : NAMES.indexOf((char) sign);
            if (name < 0) {
                text.refuse();
                return;
            }
            text.skip();
            add(NAME + name);
        }

        private void add(int step) {
            if (size < steps.length) {
                steps[size] = step;
                size++;
            }
        }
    }

    /** THE WAY by its CORNERS. */
    private static final class Way {
        static final int BYTES = 0;
        static final int SHORTS = 1;
        static final int MISSING = 3;

        private final int[] steep = new int[MOST_CORNERS];
        private final int[] told = new int[MOST_CORNERS];
        private int corners = 1;

        int steepAt(int at) {
            return at >= 0 && at < corners ? steep[at] : 0;
        }

        int steepInAll() {
            int sum = 0;
            for (int corner = 0; corner < corners; corner++) {
                sum += steep[corner];
            }
            return sum;
        }

        /** The place of the first sign that can't stand, or NONE. */
        int read(Text text) {
            text.open(MOST_CORNERS);
            int number = 0;
            do {
                told[number] = text.readNumber(1, 0, MOST_STEEP);
                number++;
            } while (number < MOST_CORNERS && text.peek() != Text.END);
            int fault = text.close();
            if (fault < 0) {
                System.arraycopy(told, 0, steep, 0, number);
                corners = number;
            }
            return fault;
        }

        void copySheet(int kind, int n, int f, int step) {
            for (int corner = 0; corner < corners; corner++) {
                steep[corner] = corner < n ? within(entry(kind, f + corner * step), 0, MOST_STEEP) : 0;
            }
        }

        private static int entry(int kind, int value) {
            return kind == BYTES ? (byte) value : kind == SHORTS ? (short) value : value;
        }
    }

    /** What is told of BEARERS, and their FORCE. */
    private static final class Bearers {
        private static final int MOST_SIGNS = 48;
        private static final int MOST_STRENGTH = 40;

        private final Way way;
        private final int[] strength = new int[MOST_BEARERS];
        private final int[] height = new int[MOST_BEARERS];
        private int number;

        Bearers(Way way) {
            this.way = way;
        }

        boolean has(int bearer) {
            return bearer >= 0 && bearer < number;
        }

        /** How many LINES; they lie behind those that came earlier, and come when the number is raised. */
        int readLines(Text text) {
            text.open(MOST_SIGNS);
            int lines = 0;
            do {
                readLine(text, number + lines);
                lines++;
            } while (lines <= MOST_BEARERS && text.passes(';'));
            return lines;
        }

        private void readLine(Text text, int bearer) {
            if (bearer >= MOST_BEARERS) {
                text.refuse();
                return;
            }
            strength[bearer] = text.readNumber(2, 1, MOST_STRENGTH);
            text.require(',');
            height[bearer] = text.readNumber(1, 1, 9);
        }

        /** FORCE of a team, if it alone carried, at the place and as TIRED as a state tells. */
        int forceOf(Rule rule, int team, State state) {
            int tallest = tallestOf(team);
            int many = Integer.bitCount(team);
            int steep = way.steepAt(state.at);
            int sum = 0;
            for (int b = 0; b < number; b++) {
                if ((team >> b & 1) != 0) {
                    sum += rule.tell(strength[b], state.tired[b], height[b], tallest, many, steep, b);
                }
            }
            return sum;
        }

        /** What the rule tells of one BEARER of a team. */
        int worth(Rule rule, int bearer, int team, int tired, int at) {
            return rule.tell(strength[bearer], tired, height[bearer], tallestOf(team),
                    Integer.bitCount(team), way.steepAt(at), bearer);
        }

        private int tallestOf(int team) {
            int tallest = 0;
            for (int b = 0; b < number; b++) {
                if ((team >> b & 1) != 0 && height[b] > tallest) {
                    tallest = height[b];
                }
            }
            return tallest;
        }
    }

    /** What is told of SAYINGS. */
    private static final class Sayings {
        private static final int MOST_SIGNS = 76;
        private static final int MOST_HEAVY = 20;

        private final int[] heavy = new int[MOST_SAYINGS];
        private final int[] harm = new int[MOST_SAYINGS];
        private final int[] knowers = new int[MOST_SAYINGS];
        private int truths;
        private int number;

        boolean has(int saying) {
            return saying >= 0 && saying < number;
        }

        boolean holds(int those) {
            return those >= 0 && those < 1 << number;
        }

        boolean isTrue(int saying) {
            return (truths >> saying & 1) != 0;
        }

        int knownTo(int who) {
            int known = 0;
            for (int s = 0; s < number; s++) {
                known |= (knowers[s] >> who & 1) << s;
            }
            return known;
        }

        int weightOf(int those) {
            return sumOf(heavy, those);
        }

        int harmOf(int those) {
            return sumOf(harm, those);
        }

        private int sumOf(int[] each, int those) {
            int sum = 0;
            for (int s = 0; s < number && s < each.length; s++) {
                sum += (those >> s & 1) * each[s];
            }
            return sum;
        }

        /** LOAD, when a SAYING has been SAID. */
        int loadAfter(int load, int saying) {
            return within(isTrue(saying) ? load - heavy[saying] : load + heavy[saying], 0, MOST_LOAD);
        }

        /** How many LINES; they lie behind those that came earlier, and come when the number is raised. */
        int readLines(Text text) {
            text.open(MOST_SIGNS);
            int lines = 0;
            do {
                readLine(text, number + lines);
                lines++;
            } while (lines <= MOST_SAYINGS && text.passes(';'));
            return lines;
        }

        private void readLine(Text text, int saying) {
            if (saying >= MOST_SAYINGS) {
                text.refuse();
                return;
            }
            heavy[saying] = text.readNumber(2, 1, MOST_HEAVY);
            truths &= ~(1 << saying);
            if (text.passes('+')) {
                truths |= 1 << saying;
            } else {
                text.require('-');
            }
            harm[saying] = text.readNumber(1, 0, 9);
            knowers[saying] = readKnowers(text);
        }

        private static int readKnowers(Text text) {
            int knowers = 0;
            int who = text.passSeventh(0);
            for (int n = 0; n < SEVENTHS && who >= 0; n++) {
                knowers |= 1 << who;
                who = text.passSeventh(who + 1);
            }
            return knowers;
        }
    }

    /** What undo() brings back, and the ACTS that change it: they answer as the calls that do them. */
    private static final class State {
        private final int[] tired = new int[MOST_BEARERS];
        private int at;
        private int load = 60;
        private int carrying;
        private int seventh;
        private int said;
        private boolean spoken;
        private int staggers;

        void become(State other) {
            System.arraycopy(other.tired, 0, tired, 0, MOST_BEARERS);
            at = other.at;
            load = other.load;
            carrying = other.carrying;
            seventh = other.seventh;
            said = other.said;
            spoken = other.spoken;
            staggers = other.staggers;
        }

        int advance(Way way, Bearers bearers, Rule rule) {
            if (at >= way.corners) {
                return -2;
            }
            if (carrying == 0) {
                return -3;
            }
            int staggering = bearers.forceOf(rule, carrying, this) < load + way.steepAt(at) ? 1 : 0;
            staggers += staggering;
            moveOn(bearers.number, 1 + 2 * staggering);
            return staggering;
        }

        /** They are at the next CORNER, those who carry more TIRED, the others less. */
        void moveOn(int number, int more) {
            for (int b = 0; b < number; b++) {
                int change = (carrying >> b & 1) != 0 ? more : -2;
                tired[b] = within(tired[b] + change, 0, MOST_TIRED);
            }
            at++;
            spoken = false;
        }

        int takeHold(Bearers bearers, int bearer) {
            if (!bearers.has(bearer)) {
                return NONE;
            }
            if ((carrying >> bearer & 1) != 0) {
                return -2;
            }
            if (Integer.bitCount(carrying) >= MOST_CARRYING) {
                return -3;
            }
            carrying |= 1 << bearer;
            return Integer.bitCount(carrying);
        }

        int letGo(Bearers bearers, int bearer) {
            if (!bearers.has(bearer)) {
                return NONE;
            }
            if ((carrying >> bearer & 1) == 0) {
                return -2;
            }
            carrying &= ~(1 << bearer);
            return Integer.bitCount(carrying);
        }

        int follow(int who) {
            if (who < 0 || who >= SEVENTHS) {
                return NONE;
            }
            if (who == seventh) {
                return -2;
            }
            int was = seventh;
            seventh = who;
            return was;
        }

        int speak(Way way, Sayings sayings, int saying) {
            if (!sayings.has(saying)) {
                return NONE;
            }
            int hindrance = hindranceTo(way, sayings, saying);
            if (hindrance == 0) {
                load = sayings.loadAfter(load, saying);
                said |= 1 << saying;
                spoken = true;
            }
            return hindrance == 0 ? load : hindrance;
        }

        /** Why a SAYING can't be SAID here now; 0: it can. */
        int hindranceTo(Way way, Sayings sayings, int saying) {
            if ((said >> saying & 1) != 0) {
                return -2;
            }
            if ((sayings.knowers[saying] >> seventh & 1) == 0) {
                return -3;
            }
            if (spoken) {
                return -4;
            }
            return at >= way.corners ? -5 : 0;
        }
    }

    /** The states that can be brought back: those ahead of the latest ACTS, and those kept. */
    private static final class History {
        private static final int MOST_UNDONE = 12;
        private static final int MOST_KEPT = 2;

        private final State[] ring = new State[MOST_UNDONE];
        private final State[] kept = new State[MOST_KEPT];
        private final State ahead = new State();
        private int keptOnes;
        private int next;
        private int number;

        History() {
            for (int k = 0; k < MOST_UNDONE; k++) {
                ring[k] = new State();
            }
            for (int k = 0; k < MOST_KEPT; k++) {
                kept[k] = new State();
            }
        }

        void forgetAll() {
            number = 0;
            keptOnes = 0;
        }

        void mark(State now) {
            ahead.become(now);
        }

        /** The state that was marked can be brought back, if what came behind it was done. */
        int settle(int answer) {
            if (answer >= 0) {
                ring[next].become(ahead);
                next = (next + 1) % MOST_UNDONE;
                number = Math.min(number + 1, MOST_UNDONE);
            }
            return answer;
        }

        int bringBack(State now) {
            if (number == 0) {
                return NONE;
            }
            next = (next + MOST_UNDONE - 1) % MOST_UNDONE;
            now.become(ring[next]);
            number--;
            return number;
        }

        boolean keepUnder(int i, State now) {
            if (i < 0 || i >= MOST_KEPT) {
                return false;
            }
            kept[i].become(now);
            keptOnes |= 1 << i;
            return true;
        }

        boolean bringBackKept(int i, State now) {
            if (i < 0 || i >= MOST_KEPT || (keptOnes >> i & 1) == 0) {
                return false;
            }
            now.become(kept[i]);
            number = 0;
            return true;
        }
    }

    /** What would come of it from here on, tried on another state. */
    private static final class Outlook {
        private static final int MOST_HUSHED = 3;

        private final Way way;
        private final Bearers bearers;
        private final Sayings sayings;
        private final Row row;
        private final State trial = new State();
        /** By CORNER: the greatest LOAD without a STAGGER from it, and from it and all behind it. */
        private final int[] borne = new int[MOST_CORNERS + 1];
        private final int[] borneOn = new int[MOST_CORNERS + 1];
        private final int[] plan = new int[MOST_HUSHED];
        private int drawn;

        Outlook(Way way, Bearers bearers, Sayings sayings, Row row) {
            this.way = way;
            this.bearers = bearers;
            this.sayings = sayings;
            this.row = row;
        }

        int staggersAhead(State now, Rule rule, int n) {
            trial.become(now);
            for (int k = 0; k < n && trial.at < way.corners; k++) {
                trial.advance(way, bearers, rule);
            }
            int tired = 0;
            for (int b = 0; b < bearers.number; b++) {
                tired += trial.tired[b];
            }
            row.tell(trial.at, tired);
            return trial.staggers - now.staggers;
        }

        int firstStagger(State now, Rule rule) {
            trial.become(now);
            for (int corner = now.at; corner < way.corners; corner++) {
                if (trial.advance(way, bearers, rule) == 1) {
                    return corner;
                }
            }
            return -2;
        }

        int mostLoad(State now, Rule rule) {
            findBorne(now, rule);
            return borneOn[now.at] < 0 ? -2 : borneOn[now.at];
        }

        /** LOAD does not tell FORCE, and without a STAGGER it does not tell who is TIRED either. */
        private void findBorne(State now, Rule rule) {
            trial.become(now);
            for (int corner = now.at; corner < way.corners; corner++) {
                borne[corner] = bearers.forceOf(rule, trial.carrying, trial) - way.steepAt(corner);
                trial.moveOn(bearers.number, 1);
            }
            borneOn[way.corners] = MOST_LOAD;
            for (int corner = way.corners - 1; corner >= now.at; corner--) {
                borneOn[corner] = Math.min(borne[corner], borneOn[corner + 1]);
            }
        }

        int fewestSayings(State now, Rule rule) {
            findBorne(now, rule);
            int fewest = fewestBy(now, now.seventh);
            if (fewest >= 0) {
                row.clear();
                for (int k = 0; k < fewest; k++) {
                    row.add(firstToSpeak(now) + k);
                    row.add(plan[k]);
                }
            }
            return fewest;
        }

        int bestSeventh(State now, Rule rule) {
            findBorne(now, rule);
            int best = -2;
            int fewest = MOST_HUSHED + 1;
            for (int who = 0; who < SEVENTHS; who++) {
                int number = fewestBy(now, who);
                if (number >= 0 && number < fewest) {
                    best = who;
                    fewest = number;
                }
            }
            if (best >= 0) {
                row.clear();
                for (int who = 0; who < SEVENTHS; who++) {
                    row.add(fewestBy(now, who));
                }
            }
            return best;
        }

        private static int firstToSpeak(State now) {
            return now.spoken ? now.at + 1 : now.at;
        }

        /**
         * How few must be SAID; the plan tells which, from the first CORNER on at which one can be. A true
         * one SAID earlier never is worse, and without a false one it is as good with fewer: so the fewest
         * are true ones, and the least row has them at the first CORNERS, one behind the other.
         */
        private int fewestBy(State now, int who) {
            if (now.load <= borneOn[now.at]) {
                return 0;
            }
            if (now.spoken && now.load > borne[now.at]) {
                return -2;
            }
            int those = sayings.truths & sayings.knownTo(who) & ~now.said;
            for (int number = 1; number <= MOST_HUSHED; number++) {
                if (hushes(those, firstToSpeak(now), now.load, 0, number)) {
                    return number;
                }
            }
            return -2;
        }

        private boolean hushes(int those, int corner, int load, int planned, int number) {
            if (planned >= number || planned >= MOST_HUSHED || corner >= way.corners) {
                return false;
            }
            for (int s = 0; s < sayings.number; s++) {
                if ((those >> s & 1) != 0) {
                    int then = sayings.loadAfter(load, s);
                    plan[planned] = s;
                    boolean is = planned + 1 == number
                            ? then <= borneOn[corner]
                            : then <= borne[corner]
                                    && hushes(those & ~(1 << s), corner + 1, then, planned + 1, number);
                    if (is) {
                        return true;
                    }
                }
            }
            return false;
        }

        int sayable(State now) {
            int those = 0;
            int lightest = NONE;
            int load = now.load;
            for (int s = 0; s < sayings.number; s++) {
                if (now.hindranceTo(way, sayings, s) == 0) {
                    int then = sayings.loadAfter(now.load, s);
                    if (lightest < 0 || then < load) {
                        lightest = s;
                        load = then;
                    }
                    those |= 1 << s;
                }
            }
            row.tell(lightest, load);
            return those;
        }

        int staggersDrawn(State now, Rule rule, int seed, int n) {
            trial.become(now);
            drawn = seed;
            for (int k = 0; k < n; k++) {
                doDrawn(rule);
            }
            row.tell(trial.at, trial.load);
            return trial.staggers - now.staggers;
        }

        private void doDrawn(Rule rule) {
            switch (draw(4)) {
                case 0:
                    trial.advance(way, bearers, rule);
                    return;
                case 1:
                    if (bearers.number > 0) {
                        turn(draw(bearers.number));
                    }
                    return;
                case 2:
                    if (sayings.number > 0) {
                        trial.speak(way, sayings, draw(sayings.number));
                    }
                    return;
                default:
                    trial.follow((trial.seventh + 1) % SEVENTHS);
            }
        }

        private void turn(int bearer) {
            if (trial.letGo(bearers, bearer) < 0) {
                trial.takeHold(bearers, bearer);
            }
        }

        private int draw(int n) {
            drawn = drawn * 1103515245 + 12345;
            return n > 0 ? (drawn >>> 16) % n : 0;
        }
    }

    /** Who should carry here. */
    private static final class Teams {
        private final Way way;
        private final Bearers bearers;
        private final Row row;
        /** The FORCE of the team that strongestOf() found. */
        private int mostForce;

        Teams(Way way, Bearers bearers, Row row) {
            this.way = way;
            this.bearers = bearers;
            this.row = row;
        }

        private int neededHere(State now) {
            return now.load + way.steepAt(now.at);
        }

        int strongest(State now, Rule rule, int k) {
            row.tell(strongestOf(now, rule, k));
            return mostForce;
        }

        /** The team of k with the most FORCE, of as much the least; 0, if there is none. */
        private int strongestOf(State now, Rule rule, int k) {
            int best = 0;
            mostForce = NONE;
            for (int team = 1; team < 1 << bearers.number; team++) {
                if (Integer.bitCount(team) == k) {
                    int force = bearers.forceOf(rule, team, now);
                    if (force > mostForce) {
                        best = team;
                        mostForce = force;
                    }
                }
            }
            return best;
        }

        int smallest(State now, Rule rule) {
            int most = Math.min(bearers.number, MOST_CARRYING);
            for (int k = 1; k <= most; k++) {
                int team = strongestOf(now, rule, k);
                if (mostForce >= neededHere(now)) {
                    row.tell(team, mostForce);
                    return k;
                }
            }
            return -2;
        }

        int bestChange(State now, Rule rule) {
            int most = -2;
            for (int off = 0; off < bearers.number; off++) {
                for (int on = 0; on < bearers.number; on++) {
                    if ((now.carrying >> off & 1) == 1 && (now.carrying >> on & 1) == 0) {
                        int force = bearers.forceOf(rule, now.carrying ^ 1 << off ^ 1 << on, now);
                        if (force > most) {
                            most = force;
                            row.tell(off, on);
                        }
                    }
                }
            }
            return most;
        }

        int needed(State now, Rule rule) {
            int those = 0;
            for (int b = 0; b < bearers.number; b++) {
                if ((now.carrying >> b & 1) != 0
                        && bearers.forceOf(rule, now.carrying ^ 1 << b, now) < neededHere(now)) {
                    those |= 1 << b;
                }
            }
            row.tell(Integer.bitCount(those));
            return those;
        }

        int mostUneven(State now) {
            int most = -2;
            for (int one = 0; one < bearers.number; one++) {
                for (int two = one + 1; two < bearers.number; two++) {
                    if ((now.carrying >> one & now.carrying >> two & 1) != 0) {
                        int difference = Math.abs(bearers.height[one] - bearers.height[two]);
                        if (difference > most) {
                            most = difference;
                            row.tell(one, two);
                        }
                    }
                }
            }
            return most;
        }

        int chanceToStand(State now, Rule rule, int p) {
            int upper = 0;
            int lower = 1;
            for (int b = 0; b < Integer.bitCount(now.carrying); b++) {
                lower *= 10;
            }
            for (int team = 0; team < 1 << bearers.number; team++) {
                if ((team & ~now.carrying) == 0 && bearers.forceOf(rule, team, now) >= neededHere(now)) {
                    upper += waysTo(team, now.carrying, p);
                }
            }
            int common = commonDivisor(upper, lower);
            if (common > 0) {
                row.tell(upper / common, lower / common);
            }
            return 0;
        }

        /** How many of all ways by tenths leave just this team of those that carry. */
        private int waysTo(int team, int carrying, int p) {
            int ways = 1;
            for (int b = 0; b < bearers.number; b++) {
                if ((carrying >> b & 1) != 0) {
                    ways *= (team >> b & 1) != 0 ? 10 - p : p;
                }
            }
            return ways;
        }

        private static int commonDivisor(int a, int b) {
            int greater = Math.max(a, b);
            int lesser = Math.min(a, b);
            for (int n = 0; n < 64 && lesser > 0; n++) {
                int left = greater % lesser;
                greater = lesser;
                lesser = left;
            }
            return greater;
        }
    }

    /** Who knows what, old walks and the worlds that fit them, what the widow hears, claims. */
    private static final class Hearsay {
        private static final int MOST_OLD = 8;
        private static final int MOST_LIGHTER = 160;
        private static final int MOST_CLAIMS = 16;

        private final Sayings sayings;
        private final Row row;
        private final int[] oldSaid = new int[MOST_OLD];
        private final int[] oldLighter = new int[MOST_OLD];
        private int oldWalks;
        private final int[] claimWho = new int[MOST_CLAIMS];
        private final int[] claimSaying = new int[MOST_CLAIMS];
        private final int[] claimIs = new int[MOST_CLAIMS];
        private int claims;
        /** What surveyWorlds() found: how many fit, the least, SAYINGS true in all, true in some, in how many. */
        private int fitting;
        private int leastWorld;
        private int always;
        private int ever;
        private final int[] timesTrue = new int[MOST_SAYINGS];

        Hearsay(Sayings sayings, Row row) {
            this.sayings = sayings;
            this.row = row;
        }

        int fewestKnowers(int those) {
            for (int number = 0; number <= SEVENTHS; number++) {
                for (int set = 0; set < 1 << SEVENTHS; set++) {
                    if (Integer.bitCount(set) == number && knowAll(set, those)) {
                        row.tell(set);
                        return number;
                    }
                }
            }
            return -2;
        }

        private boolean knowAll(int set, int those) {
            for (int s = 0; s < sayings.number; s++) {
                if ((those >> s & 1) != 0 && (sayings.knowers[s] & set) == 0) {
                    return false;
                }
            }
            return true;
        }

        int knownToJust(int k) {
            int those = 0;
            for (int s = 0; s < sayings.number; s++) {
                if (Integer.bitCount(sayings.knowers[s]) == k) {
                    those |= 1 << s;
                }
            }
            row.tell(Integer.bitCount(those), sayings.weightOf(those));
            return those;
        }

        int mostLightening(int said) {
            int best = NONE;
            int most = 0;
            int fewestFalse = 0;
            for (int who = 0; who < SEVENTHS; who++) {
                int known = sayings.knownTo(who) & ~said;
                int much = sayings.weightOf(known & sayings.truths);
                int falseOnes = Integer.bitCount(known & ~sayings.truths);
                if (best < 0 || much > most || much == most && falseOnes < fewestFalse) {
                    best = who;
                    most = much;
                    fewestFalse = falseOnes;
                }
            }
            row.tell(most, fewestFalse);
            return best;
        }

        int addOldWalk(int those, int v) {
            if (v < -MOST_LIGHTER || v > MOST_LIGHTER || oldWalks >= MOST_OLD) {
                return NONE;
            }
            oldSaid[oldWalks] = those;
            oldLighter[oldWalks] = v;
            oldWalks++;
            return oldWalks;
        }

        int forgetOldWalks() {
            int were = oldWalks;
            oldWalks = 0;
            return were;
        }

        int countWorlds() {
            surveyWorlds();
            row.tell(leastWorld);
            return fitting;
        }

        int trueInAll() {
            surveyWorlds();
            if (fitting == 0) {
                row.tell(0);
                return 0;
            }
            row.tell((1 << sayings.number) - 1 & ~ever);
            return always;
        }

        int bestQuestion() {
            surveyWorlds();
            if (fitting == 0 || sayings.number == 0) {
                return -2;
            }
            int best = 0;
            int fewest = fitting + 1;
            for (int s = 0; s < sayings.number; s++) {
                int left = Math.max(timesTrue[s], fitting - timesTrue[s]);
                if (left < fewest) {
                    best = s;
                    fewest = left;
                }
            }
            row.tell(fewest);
            return best;
        }

        private void surveyWorlds() {
            fitting = 0;
            leastWorld = NONE;
            always = ~0;
            ever = 0;
            for (int s = 0; s < sayings.number; s++) {
                timesTrue[s] = 0;
            }
            for (int world = 0; world < 1 << sayings.number; world++) {
                if (fitsAll(world)) {
                    noteWorld(world);
                }
            }
        }

        private void noteWorld(int world) {
            if (fitting == 0) {
                leastWorld = world;
            }
            fitting++;
            always &= world;
            ever |= world;
            for (int s = 0; s < sayings.number; s++) {
                timesTrue[s] += world >> s & 1;
            }
        }

        private boolean fitsAll(int world) {
            for (int k = 0; k < oldWalks; k++) {
                int lighter = sayings.weightOf(oldSaid[k] & world);
                int heavier = sayings.weightOf(oldSaid[k] & ~world);
                if (lighter - heavier != oldLighter[k]) {
                    return false;
                }
            }
            return true;
        }

        /** The first ones of the order are unheard: those with the most HARM, of as much the least row. */
        int leastHarm(int those, int unheard) {
            int hidden = 0;
            int mostHidden = NONE;
            for (int set = 0; set <= those; set++) {
                if ((set & ~those) == 0 && Integer.bitCount(set) == unheard) {
                    int harm = sayings.harmOf(set);
                    if (harm > mostHidden || harm == mostHidden && isLesserRow(set, hidden)) {
                        hidden = set;
                        mostHidden = harm;
                    }
                }
            }
            row.clear();
            row.addMembers(hidden);
            row.addMembers(those & ~hidden);
            return sayings.harmOf(those & ~hidden);
        }

        /** Of two sets of as many, told rising, the lesser row has the least number that the other lacks. */
        private static boolean isLesserRow(int set, int other) {
            int unlike = set ^ other;
            return (unlike & -unlike & set) != 0;
        }

        int addClaim(int who, int saying, int is) {
            if (claims >= MOST_CLAIMS) {
                return NONE;
            }
            claimWho[claims] = who;
            claimSaying[claims] = saying;
            claimIs[claims] = is;
            claims++;
            return claims;
        }

        int takeClaimsBack() {
            int were = claims;
            claims = 0;
            return were;
        }

        int fewestDisbelieved() {
            for (int number = 0; number < SEVENTHS; number++) {
                for (int set = 0; set < 1 << SEVENTHS; set++) {
                    if (Integer.bitCount(set) == number && agreeWithout(set)) {
                        row.tell(set);
                        return number;
                    }
                }
            }
            row.tell((1 << SEVENTHS) - 1);
            return SEVENTHS;
        }

        private boolean agreeWithout(int disbelieved) {
            int claimedTrue = 0;
            int claimedFalse = 0;
            for (int k = 0; k < claims; k++) {
                if ((disbelieved >> claimWho[k] & 1) == 0) {
                    claimedTrue |= claimIs[k] << claimSaying[k];
                    claimedFalse |= (1 - claimIs[k]) << claimSaying[k];
                }
            }
            return (claimedTrue & claimedFalse) == 0;
        }
    }
}
