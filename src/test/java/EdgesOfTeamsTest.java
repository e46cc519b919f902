/** Promises 26 to 44: every sentence that names an edge has a run of its own. */
public final class EdgesOfTeamsTest {
    private static final String FOUR = "bearers '10,1;20,1;20,1;5,1'";
    private static final String EIGHT = "bearers '9,1;9,1;9,1;9,1;9,1;9,1;9,1;9,1'";
    private static final String MANY = "sayings '1+1;1+5d;1+3;1-1;1-1;1-1;1+1;1+0a'";

    public static void main(String[] args) {
        team();
        fewest();
        change();
        props();
        rest();
        slant();
        cover();
        lighter();
        secret();
        best();
        old();
        worlds();
        sure();
        ask();
        widow();
        widowNot();
        fullHouse();
        claim();
        believe();
        Check.end();
    }

    private static void team() {
        Runs.of("26: The k BEARERS (1 .. 6) with the most FORCE: how much; the ROW: they", FOUR, "team 1 = 20 | 2",
                "team 2 = 40 | 6", "team 3 = 50 | 7", "team 4 = 55 | 15");
        Runs.of("26: (1 .. 6): six", EIGHT, "team 6 = 54 | 63", "team 5 = 45 | 31");
        Runs.of("26: (bits: of as much the least)", "bearers '5,1;9,1;9,1;9,1'", "team 1 = 9 | 2",
                "team 2 = 18 | 6", "rule '0'", "team 1 = 0 | 1", "team 4 = 0 | 15");
        Runs.of("26: if they alone carried", "bearers '20,1;5,9'", "take 1", "team 1 = 20 | 1", "team 2 = 17 | 3");
        Runs.of("26: here", "way '7'", "bearers '20,1;5,9'", "rule 'c'", "team 1 = 7 | 1", "take 0", "step",
                "team 1 = 0 | 1");
        Runs.of("26: -2: there are not so many", "team 1 = -2", FOUR, "force | 60 0", "team 5 = -2 | 60 0",
                "team 6 = -2 | 60 0");
        Runs.of("26: NONE: another k", "team 7 = -1", "team 0 = -1", FOUR, "force | 60 0", "team 0 = -1 | 60 0",
                "team -1 = -1 | 60 0", "team 7 = -1", "team MIN = -1", "team MAX = -1", "bearers '9,1;9,1;9,1;9,1'",
                "count 1 = 8", "team 7 = -1", "team 8 = -1");
    }

    private static void fewest() {
        Runs.of("27: The fewest who, alone, do not STAGGER here", FOUR, "load 20", "fewest = 1 | 2 20", "load 21",
                "fewest = 2 | 6 40", "load 40", "fewest = 2 | 6 40", "load 41", "fewest = 3 | 7 50", "load 50",
                "fewest = 3 | 7 50", "load 51", "fewest = 4 | 15 55", "load 55", "fewest = 4 | 15 55");
        Runs.of("27: here: STEEP counts", "way '5'", FOUR, "load 15", "fewest = 1 | 2 20", "load 16",
                "fewest = 2 | 6 40");
        Runs.of("27: (1 .. 6): one at least", FOUR, "load 0", "fewest = 1 | 2 20", "rule '0'", "fewest = 1 | 1 0");
        Runs.of("27: (1 .. 6): six at most", EIGHT, "load 54", "fewest = 6 | 63 54", "load 55", "fewest = -2");
        Runs.of("27: (of as few those with the most FORCE)", "bearers '10,1;11,1;12,1'", "load 10",
                "fewest = 1 | 4 12");
        Runs.of("27: (then the least bits)", "bearers '10,1;12,1;12,1'", "load 10", "fewest = 1 | 2 12");
        Runs.of("27: alone", "bearers '20,1;5,9'", "take 1", "load 20", "fewest = 1 | 1 20");
        Runs.of("27: -2: none", "fewest = -2", "load 0", "fewest = -2", FOUR, "load 56", "force | 56 0",
                "fewest = -2 | 56 0");
    }

    private static void change() {
        Runs.of("28: how much; the ROW: who lets go, who takes hold", FOUR, "take 0", "take 1", "change = 40 | 0 2",
                "count 5 = 3");
        Runs.of("28: of as good ones the least row", FOUR, "take 0", "change = 20 | 0 1", "rule '7'", "take 2",
                "change = 14 | 0 1", "rule '0'", "change = 0 | 0 1");
        Runs.of("28: after which FORCE is less", FOUR, "take 1", "take 2", "change = 30 | 1 0");
        Runs.of("28: six carry", EIGHT, "take 0", "take 1", "take 2", "take 3", "take 4", "take 5",
                "change = 54 | 0 6");
        Runs.of("28: -2: there is nobody to let go", "change = -2", FOUR, "force | 60 0", "change = -2 | 60 0");
        Runs.of("28: -2: or to take hold", "bearers '1,1'", "take 0", "force | 60 1", "change = -2 | 60 1",
                "bearers '1,1;1,1'", "take 1", "take 2", "change = -2");
    }

    private static void props() {
        Runs.of("29: the others would STAGGER here (bits); the ROW: how many", "bearers '30,1;20,1'", "take 0",
                "take 1", "load 20", "props = 0 | 0", "load 21", "props = 1 | 1", "load 30", "props = 1 | 1",
                "load 31", "props = 3 | 2", "load 999", "props = 3 | 2");
        Runs.of("29: here: STEEP counts", "way '1'", "bearers '30,1;20,1'", "take 0", "take 1", "load 20",
                "props = 1 | 1");
        Runs.of("29: nobody carries", "props = 0 | 0", "bearers '30,1'", "props = 0 | 0");
        Runs.of("29: it alone carries", "bearers '30,1'", "take 0", "load 1", "props = 1 | 1", "load 0",
                "props = 0 | 0");
    }

    private static void rest() {
        Runs.of("30: In how many STEPS of rest (0 ..)", "way '000000'", "bearers '30,1'", "rest 0 = 0 | 30",
                "take 0", "load 0", "step", "rest 0 = 1 | 30", "step", "rest 0 = 1 | 30", "step", "rest 0 = 2 | 30",
                "step", "rest 0 = 2 | 30", "step", "rest 0 = 3 | 30");
        Runs.of("30: the most", "way '000000000000'", "bearers '30,1'", "take 0", "load 999", "12 x step",
                "way '000000000000'", "12 x step", "way '000000000000'", "9 x step", "bearer 0 2 = 99",
                "rest 0 = 50 | 30");
        Runs.of("30: what THE RULE tells of it then, if it alone carried here", "way '47'", "bearers '30,2;20,9'",
                "take 0", "take 1", "step", "rest 0 = 2 | 30", "rule '10*n+x+t+c'", "rest 0 = 2 | 19",
                "rest 1 = 2 | 26", "step", "rest 0 = 2 | 12");
        Runs.of("30: NONE: none such", "rest 0 = -1", "bearers '30,1'", "force | 60 0", "rest 1 = -1 | 60 0",
                "rest -1 = -1", "rest MIN = -1", "rest MAX = -1");
    }

    private static void slant() {
        Runs.of("31: how much that is; the ROW: the pair (the lesser number first)", "bearers '1,1;1,9;1,5'",
                "take 0", "take 2", "slant = 4 | 0 2", "take 1", "slant = 8 | 0 1", "leave 0", "slant = 4 | 1 2");
        Runs.of("31: of like ones the least row", "bearers '1,5;1,5;1,9;1,9;1,5'", "take 0", "take 1",
                "slant = 0 | 0 1", "take 2", "slant = 4 | 0 2", "take 3", "slant = 4 | 0 2", "leave 0",
                "slant = 4 | 1 2", "leave 1", "slant = 0 | 2 3", "take 4", "slant = 4 | 2 4");
        Runs.of("31: -2: fewer than two carry", "slant = -2", "bearers '1,1;1,9'", "force | 60 0",
                "slant = -2 | 60 0", "take 1", "slant = -2 | 60 0");
    }

    private static void cover() {
        String sayings = "sayings '1+0a;1+0d;1+0;1-0bc'";
        Runs.of("32: how many; the ROW: they", sayings, "cover 1 = 1 | 1", "cover 3 = 2 | 9", "cover 2 = 1 | 8");
        Runs.of("32: none of them", sayings, "cover 0 = 0 | 0");
        Runs.of("32: without SAYINGS", "cover 0 = 0 | 0", "cover 1 = -1");
        Runs.of("32: all four", "sayings '1+0a;1+0b;1+0c;1+0d'", "cover 15 = 4 | 15");
        Runs.of("32: (bits: of as few the least)", sayings, "cover 8 = 1 | 2", "cover 11 = 3 | 11");
        Runs.of("32: -2: nobody knows one of them", sayings, "force | 60 0", "cover 4 = -2 | 60 0",
                "cover 15 = -2 | 60 0");
        Runs.of("32: NONE: bits of none such", sayings, "cover 16 = -1", "cover 17 = -1", "cover -1 = -1",
                "cover MIN = -1", "cover MAX = -1", "sayings '1+0;1+0;1+0;1+0a'", "count 2 = 8", "cover 255 = -2",
                "cover 256 = -1");
    }

    private static void lighter() {
        String sayings = "sayings '1+0a;2+0ad;4-0a;8+0d'";
        Runs.of("33: TRUE, not SAID, that one of SEVENTHS knows: how much; the ROW: they", sayings,
                "lighter 0 = 3 | 3", "lighter 3 = 10 | 10", "say 1", "lighter 0 = 1 | 1", "lighter 3 = 8 | 8");
        Runs.of("33: none", sayings, "lighter 1 = 0 | 0");
        Runs.of("33: without SAYINGS", "lighter 0 = 0 | 0");
        Runs.of("33: NONE: none such", sayings, "force | 60 0", "lighter 4 = -1 | 60 0", "lighter -1 = -1",
                "lighter MIN = -1", "lighter MAX = -1");
    }

    private static void secret() {
        String sayings = "sayings '1+0;2-0a;4+0ab;8+0bcd;16+0abcd;1+0d'";
        Runs.of("34: just k of SEVENTHS (0 .. 4); the ROW: how many, how HEAVY", sayings, "secret 0 = 1 | 1 1",
                "secret 1 = 34 | 2 3", "secret 2 = 4 | 1 4", "secret 3 = 8 | 1 8", "secret 4 = 16 | 1 16");
        Runs.of("34: none", "secret 0 = 0 | 0 0", "secret 4 = 0 | 0 0", "sayings '1+0a'", "secret 0 = 0 | 0 0");
        Runs.of("34: NONE: another k", sayings, "force | 60 0", "secret 5 = -1 | 60 0", "secret -1 = -1",
                "secret MIN = -1", "secret MAX = -1");
    }

    private static void best() {
        Runs.of("35: of equal ones the one who knows fewer false ones not SAID", "sayings '5+0ab;1-0a'",
                "best = 1 | 5 0", "say 1", "best = 0 | 5 0");
        Runs.of("35: then the first", "sayings '5+0bcd;1-0bcd'", "best = 1 | 5 1");
        Runs.of("35: without SAYINGS", "best = 0 | 0 0");
        Runs.of("35: all SAID", "sayings '5+0b'", "seventh 1", "say 0", "best = 0 | 0 0");
        Runs.of("35: nobody lightens", "sayings '5-0a;5-0b;5-0c'", "best = 3 | 0 0");
        Runs.of("35: nobody lightens, all know a false one", "sayings '5-0abcd'", "best = 0 | 0 1");
    }

    private static void old() {
        String sayings = "sayings '5+0;7-0'";
        Runs.of("36: lighter by v (-160 .. 160)", sayings, "old 1 160 = 1", "old 1 -160 = 2", "old 0 0 = 3",
                "count 10 = 3");
        Runs.of("36: Refused: others", sayings, "old 1 161 = -1", "old 1 -161 = -1", "old 1 MIN = -1",
                "old 1 MAX = -1", "count 10 = 0");
        Runs.of("36: Refused: bits of none such", "old 1 0 = -1", "old 0 0 = 1", sayings, "old 4 0 = -1",
                "old -1 0 = -1", "old MIN 0 = -1", "old MAX 0 = -1", "old 3 0 = 2", "count 10 = 2");
        Runs.of("36: Refused: 8", sayings, "7 x old 0 0", "old 0 0 = 8", "old 1 5 = -1", "count 10 = 8",
                "worlds = 4 | 0");
        Runs.of("37: how many there were", sayings, "forget = 0", "8 x old 0 0", "forget = 8", "forget = 0",
                "count 10 = 0", "old 1 5 = 1", "worlds = 2 | 1");
    }

    private static void worlds() {
        Runs.of("38: Worlds that fit all old walks: how many; the ROW: the least", "sayings '5+0;5-0;5+0'",
                "worlds = 8 | 0", "old 7 5", "worlds = 3 | 3", "old 1 -5", "worlds = 1 | 6");
        Runs.of("38: (NONE)", "sayings '5+0'", "old 1 4", "worlds = 0 | -1");
        Runs.of("38: an old walk without SAYINGS", "sayings '5+0'", "old 0 0", "worlds = 2 | 0", "old 0 1",
                "worlds = 0 | -1");
        Runs.of("38: without SAYINGS", "worlds = 1 | 0", "old 0 0", "worlds = 1 | 0", "old 0 3", "worlds = 0 | -1");
        Runs.of("38: whatever it is told to be", "sayings '5+0;6-0'", "old 1 -5", "old 2 6", "worlds = 1 | 2");
        Runs.of("38: eight SAYINGS", "sayings '20+0;20+0;20+0;20+0;20+0;20+0;20+0;20+0'", "worlds = 256 | 0",
                "old 255 160", "worlds = 1 | 255", "forget", "old 255 -160", "worlds = 1 | 0");
        Runs.of("38: SAYINGS that came since", "sayings '5+0'", "old 1 5", "sayings '5+0'", "worlds = 2 | 1",
                "old 3 10", "worlds = 1 | 3");
    }

    private static void sure() {
        Runs.of("39: true in all such worlds; the ROW: those that are false in all", "sayings '5+0;6+0;7+0'",
                "sure = 0 | 0", "old 1 5", "sure = 1 | 0", "old 4 -7", "sure = 1 | 4", "old 2 6", "sure = 3 | 4");
        Runs.of("39: the first is false in all", "sayings '5+0;6+0'", "old 1 -5", "sure = 0 | 1", "old 2 -6",
                "sure = 0 | 3");
        Runs.of("39: (0 and 0, if there are none)", "sayings '5+0'", "old 1 4", "sure = 0 | 0");
        Runs.of("39: without SAYINGS", "sure = 0 | 0");
    }

    private static void ask() {
        Runs.of("40: of equal ones the first: it; the ROW: how many at most", "sayings '5+0;6+0;7+0'",
                "ask = 0 | 4", "old 1 5", "ask = 1 | 2", "old 2 6", "ask = 2 | 1", "old 4 7", "ask = 0 | 1");
        Runs.of("40: -2: there are no such worlds", "sayings '5+0'", "old 1 4", "force | 60 0", "ask = -2 | 60 0");
        Runs.of("40: -2: or no SAYINGS", "force | 60 0", "ask = -2 | 60 0");
    }

    private static void widow() {
        String[] ready = {"way '000000'", "bearers '1,1'", "take 0", MANY};
        Runs.go(Runs.of("41", ready), "41: the widow hears what is SAID at CORNER e and later",
                "widow 7 0 = 9 | 0 1 2", "widow 7 1 = 4 | 1 0 2", "widow 7 2 = 1 | 1 2 0", "widow 7 3 = 0 | 0 1 2");
        Runs.go(Runs.of("41", ready), "41: e (0 .. 12)", "widow 7 12 = 0 | 0 1 2", "widow 7 0 = 9 | 0 1 2");
        Runs.go(Runs.of("41", ready), "41: from the one at which they are on", "step", "widow 7 0 = 9 | 0 1 2",
                "widow 7 1 = 9 | 0 1 2", "widow 7 2 = 4 | 1 0 2", "widow 7 4 = 0 | 0 1 2");
        Runs.go(Runs.of("41", ready), "41: the least HARM, though another order would be less",
                "widow 135 2 = 1 | 1 2 0 7");
        Runs.go(Runs.of("41", ready), "41: the order: of as little the least", "widow 56 1 = 2 | 3 4 5",
                "widow 120 2 = 2 | 3 4 5 6", "widow 73 1 = 2 | 0 3 6", "widow 137 2 = 0 | 0 3 7");
        Runs.go(Runs.of("41", ready), "41: none at all", "force | 60 1", "widow 0 0 = 0 |", "count 13 = 0");
        Runs.go(Runs.of("41", ready), "41: (6 at most)", "widow 63 0 = 12 | 0 1 2 3 4 5",
                "widow 63 6 = 0 | 0 1 2 3 4 5", "widow 252 5 = 0 | 2 3 4 5 6 7");
        Runs.go(Runs.of("41", ready), "41: at the last CORNER, and on the hill", "5 x step", "widow 2 0 = 5 | 1",
                "widow 2 6 = 0 | 1", "widow 3 0 = -2", "step", "widow 2 0 = -2", "widow 0 0 = 0 |");
    }

    private static void widowNot() {
        String[] ready = {"way '000000'", "bearers '1,1'", "take 0", MANY, "force | 60 1"};
        Runs.go(Runs.of("41", ready), "41: -3: more than 6", "widow 127 0 = -3 | 60 1", "widow 255 12 = -3 | 60 1");
        Runs.go(Runs.of("41", ready), "41: -3: or one was SAID", "say 7", "widow 128 0 = -3 | 60 1",
                "widow 131 0 = -3 | 60 1", "widow 3 0 = 6 | 0 1");
        Runs.go(Runs.of("41", ready), "41: -2: there are not so many CORNERS any more", "4 x step",
                "widow 3 0 = 6 | 0 1", "widow 7 0 = -2 | 0 1", "widow 63 12 = -2 | 0 1");
        Runs.go(Runs.of("41", ready), "41: -2 (asked behind that)", "say 7", "5 x step", "widow 131 0 = -3",
                "widow 127 0 = -3", "step", "widow 128 0 = -3");
        Runs.go(Runs.of("41", ready), "41: NONE: others", "widow 1 13 = -1 | 60 1", "widow 1 -1 = -1",
                "widow 1 MIN = -1", "widow 1 MAX = -1", "widow 256 0 = -1", "widow -1 0 = -1", "widow MIN 0 = -1",
                "widow MAX 0 = -1", "count 13 = 2 | 60 1");
        Runs.of("41: NONE: without SAYINGS", "widow 1 0 = -1", "widow 0 0 = 0 |");
    }

    /** As many as there can be, so that what comes behind them would be seen. */
    private static void fullHouse() {
        Runs.of("BEARERS at most 8: all of them are asked", "bearers '1,1;1,1;1,1;1,1;1,1;1,1;7,1;9,9'", "take 0",
                "take 6", "take 7", "rule 's'", "team 2 = 16 | 192", "fewest = -2", "load 10",
                "fewest = 2 | 192 16", "change = 17 | 0 1", "props = 128 | 1", "slant = 8 | 0 7", "rest 7 = 0 | 9",
                "ahead 1 = 0 | 1 3", "force = 17 | 10 3");
        Runs.of("SAYINGS at most 8: all of them are asked", "way '000'",
                "sayings '1+0a;1-0a;1+0;1+0;1+0;1+0;2-0ab;20+9abcd'", "could = 195 | 7 40", "lighter 0 = 21 | 129",
                "lighter 3 = 20 | 128", "secret 4 = 128 | 1 20", "secret 0 = 60 | 4 4", "best = 0 | 21 2",
                "cover 192 = 1 | 1", "cover 131 = 1 | 1", "widow 193 1 = 0 | 7 0 6", "old 255 -28",
                "worlds = 1 | 0", "sure = 0 | 255", "forget", "old 127 8", "worlds = 2 | 127", "sure = 127 | 0",
                "ask = 7 | 1");
    }

    private static void claim() {
        String sayings = "sayings '1+0;1+0'";
        Runs.of("42: how many claims", sayings, "claim 0 0 0 = 1", "claim 3 1 1 = 2", "claim 3 1 1 = 3",
                "count 11 = 3");
        Runs.of("42: Refused: others", "claim 0 0 0 = -1", sayings, "claim 4 0 0 = -1", "claim -1 0 0 = -1",
                "claim MIN 0 0 = -1", "claim MAX 0 0 = -1", "claim 0 2 0 = -1", "claim 0 -1 0 = -1",
                "claim 0 MIN 0 = -1", "claim 0 MAX 0 = -1", "claim 0 0 2 = -1", "claim 0 0 -1 = -1",
                "claim 0 0 MIN = -1", "claim 0 0 MAX = -1", "count 11 = 0");
        Runs.of("42: Refused: 16", sayings, "15 x claim 0 0 1", "claim 1 0 1 = 16", "claim 2 0 0 = -1",
                "count 11 = 16", "believe = 0 | 0");
        Runs.of("43: how many there were", sayings, "unsaid = 0", "16 x claim 0 0 1", "unsaid = 16", "unsaid = 0",
                "count 11 = 0", "claim 0 0 0 = 1");
    }

    private static void believe() {
        String sayings = "sayings '1+0;1+0;1+0'";
        Runs.of("44: no claims", "believe = 0 | 0");
        Runs.of("44: claims alike", sayings, "claim 0 0 1", "claim 1 0 1", "claim 2 1 0", "believe = 0 | 0");
        Runs.of("44: of different SAYINGS", sayings, "claim 0 0 1", "claim 1 1 1", "claim 2 2 1", "claim 3 1 1",
                "believe = 0 | 0", "unsaid", "claim 0 2 1", "claim 1 1 0", "claim 2 0 1", "believe = 0 | 0");
        Runs.of("44: (bits: of as few the least)", sayings, "claim 3 0 1", "claim 1 0 0", "believe = 1 | 2");
        Runs.of("44: (or of the same one)", sayings, "claim 3 0 1", "claim 3 0 0", "believe = 1 | 8");
        Runs.of("44: whatever the SAYING is told to be", sayings, "claim 0 0 0", "claim 1 0 0", "believe = 0 | 0",
                "claim 2 0 1", "believe = 1 | 4");
        Runs.of("44: all four", sayings, "claim 0 0 1", "claim 0 0 0", "claim 1 1 1", "claim 1 1 0", "claim 2 2 1",
                "claim 2 2 0", "believe = 3 | 7", "claim 3 0 1", "claim 3 0 0", "believe = 4 | 15");
        Runs.of("44: taken back", sayings, "claim 3 0 1", "claim 1 0 0", "believe = 1 | 2", "unsaid",
                "believe = 0 | 0");
    }
}
