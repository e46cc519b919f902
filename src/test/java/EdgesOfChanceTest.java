/** Promises 45 to 52: every sentence that names an edge has a run of its own. */
public final class EdgesOfChanceTest {
    private static final String FORTY = "s+s+s+s+s+s+s+s+s+s+s+s+s+s+s+s+s+s+s+1-";
    private static final String[] FIFTY = {"way '0123'", "bearers '1,1'", "rule '50'", "take 0"};

    public static void main(String[] args) {
        slips();
        rests();
        law();
        lawFaults();
        years();
        yearsIf();
        keep();
        again();
        count();
        row();
        Check.end();
    }

    private static void fifty(String sentence, String... calls) {
        Runs.go(Runs.of(sentence, FIFTY), sentence, calls);
    }

    private static void slips() {
        String[] two = {"bearers '30,1;30,1'", "take 0", "take 1"};
        Runs.go(Runs.of("45", two), "45: p tenths (0 .. 10): 0; the ROW: the fraction", "slips 0 = 0 | 1 1",
                "slips 1 = 0 | 81 100", "slips 2 = 0 | 16 25", "slips 9 = 0 | 1 100", "slips 10 = 0 | 0 1");
        Runs.go(Runs.of("45", two), "45: the others carry alone", "load 30", "slips 1 = 0 | 99 100",
                "slips 10 = 0 | 0 1", "load 31", "slips 1 = 0 | 81 100");
        Runs.go(Runs.of("45", two), "45: nobody is left, and nothing is needed", "load 0", "slips 10 = 0 | 1 1",
                "slips 5 = 0 | 1 1");
        Runs.go(Runs.of("45", two), "45: they STAGGER as they are", "load 61", "slips 0 = 0 | 0 1",
                "slips 5 = 0 | 0 1");
        Runs.of("45: here: STEEP counts", "way '5'", "bearers '30,1'", "take 0", "load 25", "slips 5 = 0 | 1 2",
                "load 26", "slips 5 = 0 | 0 1", "load 30", "step", "rule '30'", "slips 5 = 0 | 1 2");
        Runs.of("45: Each who carries, the others do not", "bearers '30,1;30,1;30,1;30,1'", "take 1", "take 3",
                "slips 1 = 0 | 81 100", "load 30", "slips 3 = 0 | 91 100");
        Runs.of("45: six", "bearers '10,1;10,1;10,1;10,1;10,1;10,1'", "take 0", "take 1", "take 2", "take 3",
                "take 4", "take 5", "slips 1 = 0 | 531441 1000000", "load 1", "slips 9 = 0 | 468559 1000000",
                "slips 10 = 0 | 0 1", "slips 0 = 0 | 1 1");
        Runs.of("45: NONE: another p (asked first)", "slips 11 = -1", "slips -1 = -1", "slips MIN = -1",
                "slips MAX = -1", "bearers '30,1'", "take 0", "force | 60 1", "slips 11 = -1 | 60 1",
                "slips -1 = -1 | 60 1");
        Runs.of("45: -3: nobody carries", "slips 0 = -3", "bearers '30,1'", "force | 60 0", "slips 10 = -3 | 60 0");
    }

    private static void rests() {
        Runs.of("46: v (0 .. 20) coins: nothing to have", "rests 0 = 100 | 0 0");
        // each 0 or 1: 4; 1 beside 2 .. 9: 16; like ones of 2 .. 9: 8
        Runs.of("46: nobody has more than v: 1", "rests 1 = 28 | 0 0");
        // each 0 or 1: 4; 1 beside 2, and 2 beside 2: 3; like ones of 4 .. 9: 6
        Runs.of("46: nobody has more than v: 2", "rests 2 = 13 | 0 0");
        Runs.of("46: v (0 .. 20) coins: more than any asks for", "rests 9 = 7 | 0 0", "rests 20 = 7 | 0 0");
        Runs.of("46: NONE: another v", "force | 60 0", "rests 21 = -1 | 60 0", "rests -1 = -1 | 60 0",
                "rests MIN = -1", "rests MAX = -1");
    }

    private static void law() {
        fifty("47: how much; the ROW: both, by it first", "load 50", "law '49' = -1 | 0 1", "law '50' = 0 | 1 1",
                "law '51' = 1 | 2 1", "law '52' = 2 | 3 1");
        fifty("47: (each 12, if from none)", "load 50", "law '99' = 11 | 12 1", "load 47", "law '99' = 0 | 12 12",
                "law '0' = -12 | 0 12");
        fifty("47: (an empty one: none)", "load 1", "law '' = -11 | 1 12", "law = -11 | 1 12");
        fifty("47: on the hill", "4 x step", "law '0' = 0 | 12 12");
        fifty("47: THE RULE stays as it is", "law '7'", "force = 50", "law 'x+' = -10002", "force = 50",
                "law '' = 0", "force = 50", "count 14 = 0");
    }

    private static void lawFaults() {
        fifty("47: -10000 - p: the sign at p can't stand there", "force | 60 1", "law 'z' = -10000 | 60 1",
                "law 's+' = -10002", "law '1000' = -10003", "law 's<s<s' = -10003", "law '(((((s' = -10004",
                "law '(s' = -10002", "count 14 = 0");
        fifty("47: (as rule()): 40 signs", "load 0", "law '" + FORTY.substring(0, 39) + "0' = 0",
                "law '" + FORTY + "' = -10040", "law '" + FORTY + "1' = -10040",
                "law '" + FORTY.substring(0, 39) + "00' = -10040", "law '" + FORTY.substring(0, 39) + "xx' = -10039");
        Runs.of("47: -20000: nobody carries", "law 's' = -20000", "count 14 = 0", "law '' = -20000", "law = -20000",
                "bearers '1,1'", "force | 60 0", "law 's' = -20000 | 60 0");
        Runs.of("47: (asked behind the text)", "law 'z' = -10000", "law 's+' = -10002",
                "law '" + FORTY + "1' = -10040");
    }

    /** Seeds by which the first draws are as told: 0: 0 0; 2: 0; 1, 6: 2; 3: 3; 10: 3 2; 55: 3 3 3 2; 605: 3 3 3 3 2. */
    private static void years() {
        Runs.of("48: n times (1 .. 60)", "years 0 1 = 0 | 0 60", "years 0 60 = 0 | 0 60", "force | 60 0",
                "years 0 0 = -1 | 60 0", "years 0 61 = -1 | 60 0", "years 0 -1 = -1", "years 0 MIN = -1",
                "years 0 MAX = -1", "years MIN 60 = 0 | 0 60");
        Runs.of("48: 0: a STEP", "way '00'", "bearers '1,1'", "take 0", "years 0 1 = 1 | 1 60",
                "years 2 1 = 1 | 1 60", "years 0 2 = 2 | 2 60", "count 3 = 0", "count 9 = 0");
        Runs.of("48: a STEP, if there can be one: not on the hill", "bearers '1,1'", "take 0",
                "years 0 1 = 1 | 1 60", "years 0 2 = 1 | 1 60", "step", "years 0 1 = 0 | 1 60");
        Runs.of("48: a STEP, if there can be one: not if nobody carries", "bearers '1,1'", "years 0 1 = 0 | 0 60");
        Runs.of("48: 2: one that is SAID", "sayings '7+0a'", "years 1 1 = 0 | 0 53", "years 6 1 = 0 | 0 53",
                "count 4 = 60", "count 7 = 0");
        Runs.of("48: 3: THE SEVENTH is the next one", "sayings '7+0b'", "years 6 1 = 0 | 0 60",
                "years 10 1 = 0 | 0 60", "years 10 2 = 0 | 0 53", "count 6 = 0");
        Runs.of("48: (3: 0)", "sayings '7+0a'", "years 605 4 = 0 | 0 60", "years 605 5 = 0 | 0 53", "seventh 3",
                "years 10 2 = 0 | 0 53");
        Runs.of("48: the last of them", "sayings '7+0d'", "years 55 4 = 0 | 0 53", "years 605 5 = 0 | 0 60");
    }

    /** Seeds: 23: 1 and BEARER 0 of 1 (1 of 2), then 0; 44: 1 and BEARER 6 of 8, then 0; 4: 1 2; 8: 2 0, or 2 2 of two. */
    private static void yearsIf() {
        Runs.of("48: 1: one who takes hold", "way '00'", "bearers '40,1'", "load 40", "years 23 2 = 0 | 1 40",
                "load 41", "years 23 2 = 1 | 1 41", "count 5 = 0");
        Runs.of("48: or lets go, if it carries", "way '00'", "bearers '40,1'", "take 0", "load 99",
                "years 23 2 = 0 | 0 99", "bearers '40,1'", "load 41", "years 23 2 = 0 | 1 41", "take 1", "load 40",
                "years 23 2 = 0 | 1 40", "load 41", "years 23 2 = 1 | 1 41");
        Runs.of("48: (if it can): six do", "bearers '9,1;9,1;9,1;9,1;9,1;9,1;9,1;9,1'", "take 0", "take 1",
                "take 2", "take 3", "take 4", "load 54", "years 44 2 = 0 | 1 54", "take 5", "load 55",
                "years 44 2 = 1 | 1 55");
        Runs.of("48: (without BEARERS: nothing)", "sayings '7+0a'", "years 4 1 = 0 | 0 60", "years 4 2 = 0 | 0 53");
        Runs.of("48: (without SAYINGS: nothing)", "bearers '40,1'", "take 0", "load 40", "years 8 1 = 0 | 0 40",
                "years 8 2 = 0 | 1 40");
        Runs.of("48: SAID, if it can be: not two at a CORNER", "sayings '7+0a;5+0a'", "years 8 1 = 0 | 0 53",
                "years 8 2 = 0 | 0 53");
        Runs.of("48: SAID, if it can be: not what was SAID", "way '00'", "bearers '1,1'", "sayings '7+0a'",
                "take 0", "say 0 = 53", "step", "years 1 1 = 0 | 1 53");
        Runs.of("48: SAID, if it can be: not on the hill", "bearers '1,1'", "sayings '7+0a'", "take 0", "step",
                "years 1 1 = 0 | 1 60");
        Runs.of("48: SAID, if it can be: not what he does not know", "sayings '7+0b'", "years 1 1 = 0 | 0 60");
    }

    private static void keep() {
        Runs.of("49: under a number 0 .. 1: true", "keep 0 = true", "keep 1 = true", "keep 0 = true");
        Runs.of("49: Refused: others", "keep 2 = false", "keep -1 = false", "keep MIN = false", "keep MAX = false",
                "again 0 = false", "again 1 = false");
        Runs.of("49: the numbers are apart", "seventh 1", "keep 0", "seventh 2", "keep 1", "seventh 3",
                "again 0 = true", "count 6 = 1", "again 1 = true", "count 6 = 2");
        Runs.of("49: kept anew", "seventh 1", "keep 0", "seventh 2", "keep 0", "seventh 3", "again 0 = true",
                "count 6 = 2");
        Runs.of("49: What undo() brings back is kept", "way '00'", "bearers '1,1;1,1'", "sayings '5+0b'", "take 0",
                "seventh 1", "step", "say 0 = 55", "keep 1", "count 12 = 4", "step", "leave 0", "take 1",
                "seventh 2", "load 9", "again 1 = true", "count 3 = 1", "count 4 = 55", "count 5 = 1",
                "count 6 = 1", "count 7 = 1", "count 8 = 1", "count 9 = 1", "bearer 0 2 = 3", "bearer 1 2 = 0");
    }

    private static void again() {
        Runs.of("50: It is as it was kept, as often as one likes", "keep 0", "seventh 1", "again 0 = true",
                "count 6 = 0", "seventh 2", "again 0 = true", "count 6 = 0");
        Runs.of("50: Refused: nothing kept", "again 0 = false", "keep 0", "again 1 = false", "again 0 = true");
        Runs.of("50: Refused: others", "keep 0", "keep 1", "again 2 = false", "again -1 = false",
                "again MIN = false", "again MAX = false");
        Runs.of("50: Refused: THE WAY came since", "keep 0", "keep 1", "way '0'", "again 0 = false",
                "again 1 = false");
        Runs.of("50: Refused: BEARERS came since", "keep 0", "keep 1", "bearers '1,1'", "again 0 = false",
                "again 1 = false");
        Runs.of("50: Refused: SAYINGS came since", "keep 0", "keep 1", "sayings '1+1'", "again 0 = false",
                "again 1 = false");
        Runs.of("50: not if they were refused, or nothing", "keep 0", "way 'x' = -1", "bearers 'x' = -1",
                "sayings 'x' = -1", "way '' = -1", "bearers '' = 0", "sayings '' = 0", "again 0 = true");
        Runs.of("50: a refused one changes nothing", "seventh 1", "seventh 2", "again 0 = false", "count 6 = 2",
                "count 12 = 2", "undo = 1");
        Runs.of("50: THE RULE, old walks, claims, STEEP and THE TEXT are not among it", "bearers '1,1'",
                "sayings '1+1'", "keep 0", "take 0", "rule '7'", "old 1 1", "claim 0 0 1", "sheet 2 1 5 0",
                "sign 0", "again 0 = true", "count 5 = 0", "count 10 = 1", "count 11 = 1", "count 14 = 4", "take 0",
                "force = 7 | 65 1");
    }

    private static void count() {
        Runs.of("51: of a new object", "count 0 = 1", "count 1 = 0", "count 2 = 0", "count 3 = 0", "count 4 = 60",
                "count 5 = 0", "count 6 = 0", "count 7 = 0", "count 8 = 0", "count 9 = 0", "count 10 = 0",
                "count 11 = 0", "count 12 = 0", "count 13 = 0", "count 14 = 0", "count 15 = 0");
        Runs.of("51: as full as it can be", "way '000000000000'", "bearers '1,1;1,1;1,1;1,1;1,1;1,1;1,1;1,1'",
                "sayings '1-1d;1-1d;1-1d;1-1d;1-1d;1-1d;1-1d;1-1d'", "seventh 3", "take 2", "take 3", "take 4",
                "take 5", "take 6", "take 7", "load 999", "walk 's0>s1>s2>s3>s4>s5>s6>s7>>>>>' = 20 | 0 12",
                "way '000000000000'", "12 x step = 1", "8 x old 255 160", "16 x claim 3 7 0", "20 x sign 0",
                "count 0 = 12", "count 1 = 8", "count 2 = 8", "count 3 = 12", "count 4 = 999", "count 5 = 252",
                "count 6 = 3", "count 7 = 255", "count 8 = 0", "count 9 = 24", "count 10 = 8", "count 11 = 16",
                "count 12 = 12", "count 13 = 2", "count 14 = 80", "count 15 = 8");
        Runs.of("51: NONE for another what", "count 16 = -1", "count -1 = -1", "count MIN = -1", "count MAX = -1");
    }

    private static void row() {
        Runs.of("52: Number i of the ROW", "force", "row 0 = 60", "row 1 = 0");
        Runs.of("52: NoSuchElementException: none such", "row 0 = throws", "force", "row 2 = throws",
                "row -1 = throws", "row MIN = throws", "row MAX = throws", "row 1 = 0");
        Runs.of("52: an empty ROW", "force", "widow 0 0 = 0", "count 13 = 0", "row 0 = throws");
        Runs.of("52: a shorter ROW", "force", "worlds | 0", "row 0 = 0", "row 1 = throws");
        Runs.of("52: the longest ROW", "way '0123'", "bearers '1,1'", "rule '50'", "take 0",
                "sayings '1+0a;1+0a;1+0a'", "load 50", "hush = 3", "row 5 = 2", "row 6 = throws");
    }
}
