/** Promises 13 to 25: every sentence that names an edge has a run of its own. */
public final class EdgesOfWalksTest {
    private static final String SIX = "bearers '9,1;9,1;9,1;9,1;9,1;9,1;9,1;9,1'";
    private static final String SIXTY = "t0l0t0l0t0l0t0l0t0l0t0l0t0l0t0l0t0l0t0l0t0l0t0l0t0l0t0l0t0l0";
    /** FORCE is 50 wherever they are; 50, 49, 48 and 47 are borne at the CORNERS. */
    private static final String[] FIFTY = {"way '0123'", "bearers '1,1'", "rule '50'", "take 0"};

    public static void main(String[] args) {
        step();
        take();
        leave();
        seventh();
        say();
        walk();
        walkFaults();
        walkStops();
        undo();
        undoEach();
        undoForgets();
        ahead();
        first();
        bears();
        hush();
        hushNot();
        which();
        could();
        Check.end();
    }

    private static void fifty(String sentence, String... calls) {
        Runs.go(Runs.of(sentence, FIFTY), sentence, calls);
    }

    private static void step() {
        Runs.of("13: 1 if they STAGGER, else 0; the ROW: AT, STAGGERS in all", "way '000'", "bearers '30,1'",
                "take 0", "step = 1 | 1 1", "load 29", "step = 0 | 2 1", "load 60", "step = 1 | 3 2");
        Runs.of("13: -2: they are on the hill", "bearers '30,1;1,1'", "take 0", "step = 1 | 1 1", "step = -2 | 1 1",
                "count 3 = 1", "count 9 = 1", "bearer 0 2 = 3", "count 12 = 2");
        Runs.of("13: -3: nobody carries", "step = -3", "bearers '30,1'", "step = -3", "count 3 = 0", "count 9 = 0",
                "count 12 = 0", "count 13 = 0");
        Runs.of("13: -3: nobody carries any more, and nobody rests by it", "way '00'", "bearers '30,1'", "take 0",
                "step", "leave 0", "step = -3", "bearer 0 2 = 3");
        Runs.of("13: on the hill, and nobody carries", "bearers '30,1'", "take 0", "step", "leave 0", "step = -2");
    }

    private static void take() {
        Runs.of("14: how many carry then", SIX, "take 7 = 1", "take 0 = 2", "count 5 = 129");
        Runs.of("14: -2: it does already", SIX, "take 3", "take 3 = -2", "count 5 = 8", "count 12 = 1");
        Runs.of("14: -3: six do", SIX, "take 0", "take 1", "take 2", "take 3", "take 4 = 5", "take 5 = 6",
                "take 6 = -3", "take 7 = -3", "count 5 = 63", "count 12 = 6", "leave 0", "take 6 = 6");
        Runs.of("14: one of the six: it does already", SIX, "take 0", "take 1", "take 2", "take 3", "take 4",
                "take 5", "take 5 = -2", "take 0 = -2");
        Runs.of("14: NONE: none such", "take 0 = -1", SIX, "take 8 = -1", "take -1 = -1", "take 32 = -1",
                "take MIN = -1", "take MAX = -1", "take 0", "take 1", "take 2", "take 3", "take 4", "take 5",
                "take 8 = -1", "count 5 = 63");
        Runs.of("14: on the hill too", SIX, "take 0", "step", "take 1 = 2");
    }

    private static void leave() {
        Runs.of("15: how many carry then", SIX, "take 0", "take 7", "leave 7 = 1", "leave 0 = 0", "count 5 = 0");
        Runs.of("15: -2: it does not carry", SIX, "leave 0 = -2", "take 0", "leave 1 = -2", "leave 0 = 0",
                "leave 0 = -2", "count 12 = 2");
        Runs.of("15: NONE: none such", "leave 0 = -1", SIX, "leave 8 = -1", "leave -1 = -1", "leave 32 = -1",
                "leave MIN = -1", "leave MAX = -1");
    }

    private static void seventh() {
        Runs.of("16: THE SEVENTH is another one (0 .. 3): who it was", "seventh 3 = 0", "seventh 2 = 3",
                "seventh 1 = 2", "seventh 0 = 1", "count 6 = 0");
        Runs.of("16: -2: the same", "seventh 0 = -2", "seventh 3", "seventh 3 = -2", "count 6 = 3", "count 12 = 1");
        Runs.of("16: NONE: others", "seventh 4 = -1", "seventh -1 = -1", "seventh MIN = -1", "seventh MAX = -1",
                "count 6 = 0", "count 12 = 0");
    }

    private static void say() {
        String[] ready = {"way '00'", "bearers '1,1'", "take 0", "sayings '5+1a;6-1a;7+1b'"};
        Runs.go(Runs.of("17", ready), "17: LOAD then", "say 0 = 55", "step", "say 1 = 61", "count 7 = 3");
        Runs.go(Runs.of("17", ready), "17: -2: it was SAID", "say 0", "say 0 = -2", "step", "say 0 = -2", "step",
                "say 0 = -2", "seventh 1", "say 0 = -2", "count 4 = 55", "count 12 = 4");
        Runs.go(Runs.of("17", ready), "17: -3: he does not know it", "say 2 = -3", "say 0", "say 2 = -3", "step",
                "step", "say 2 = -3", "count 7 = 1");
        Runs.go(Runs.of("17", ready), "17: -4: it is SPOKEN here", "say 0", "say 1 = -4", "seventh 1", "say 2 = -4",
                "step", "say 2 = 48", "count 8 = 1");
        Runs.go(Runs.of("17", ready), "17: -5: they are on the hill", "2 x step", "say 0 = -5", "count 4 = 60",
                "count 8 = 0");
        Runs.go(Runs.of("17", ready), "17: NONE: none such", "say 3 = -1", "say -1 = -1", "say 32 = -1",
                "say MIN = -1", "say MAX = -1", "say 0", "say 3 = -1", "2 x step", "say 3 = -1");
        Runs.of("17: NONE: none at all", "say 0 = -1");
    }

    private static void walk() {
        Runs.of("18: (an empty one: nothing)", "bearers '30,1'", "take 0", "walk '' = 0 | 0 0", "count 12 = 1",
                "count 3 = 0");
        Runs.of("18: how many were done; the ROW: 0; STAGGERS by these", "way '000'", "bearers '30,1'", "take 0",
                "step = 1", "walk '>' = 1 | 0 1", "load 0", "walk '>' = 1 | 0 0", "count 9 = 2");
        Runs.of("18: what an earlier walk told is not done again", "walk 'vbvcvd' = 3", "walk 'va' = 1 | 0 0",
                "count 6 = 0", "walk 'vax' = -3", "walk '' = 0", "count 6 = 0");
        Runs.of("18: 60 signs", "bearers '30,1'", "walk '" + SIXTY + "' = 30 | 0 0", "count 5 = 0", "count 12 = 1");
        Runs.of("18: 60 ACTS", "bearers '30,1'", "take 0",
                "walk '>>>>>>>>>>>>>>>>>>>>>>>>>>>>>>>>>>>>>>>>>>>>>>>>>>>>>>>>>>>>' = 1 | 1 1");
        Runs.of("18: t, l, s and a digit: 0 .. 9", "bearers '1,1;1,1;1,1;1,1;1,1;1,1;1,1;1,1'",
                "walk 't7t0l7' = 3 | 0 0", "walk 't8' = 0 | 1 0", "walk 'l9' = 0 | 1 0", "walk 's9' = 0 | 1 0");
        Runs.of("18: v and a letter a .. d", "walk 'vdvcvbva' = 4 | 0 0", "walk 'vbvbva' = 1 | 1 0", "count 6 = 1");
    }

    private static void walkFaults() {
        Runs.of("18: the sign at p can't stand there", "walk 'x' = -1", "walk 'T0' = -1", "walk '0' = -1",
                "walk 'tt' = -2", "walk 't/' = -2", "walk 't:' = -2", "walk 'l>' = -2", "walk 've' = -2",
                "walk 'v`' = -2", "walk 'v0' = -2", "walk 'sa' = -2", "walk '> >' = -2", "walk 't00' = -3",
                "walk 'vab' = -3", "walk '>;>' = -2");
        Runs.of("18: its end, if it ends too early", "walk 't' = -2", "walk 'l' = -2", "walk 'v' = -2",
                "walk 's' = -2", "walk '>>t' = -4", "walk 't0v' = -4");
        Runs.of("18: 60, if it has more and the first 60 could end", "walk '" + SIXTY + ">' = -61",
                "walk '" + SIXTY + "x' = -61", "walk '" + SIXTY + "t0t0t0t0t0t0t0t0t0t0' = -61");
        Runs.of("18: 60, if it has more and the first 60 could go on", "walk '>" + SIXTY + "' = -61",
                "walk '>" + SIXTY.substring(0, 58) + "sx' = -61");
        Runs.of("18: 60 signs that end too early", "walk '>" + SIXTY.substring(0, 58) + "s' = -61");
        Runs.of("18: a wrong sign ahead of it counts", "walk '>" + SIXTY.substring(0, 58) + "xt0' = -60");
        Runs.of("18: a wrong first sign counts, however many come behind it", "walk 'x" + SIXTY + "' = -1");
        Runs.of("18: a sign of 0 can't stand there either", "sign 1040187392 = 4", "walk = -2", "sign 0",
                "walk = -1", "sign 1946157056", "walk = -2");
        Runs.of("18: nothing is done then", "way '00'", "bearers '30,1'", "take 0", "force | 60 1",
                "walk '>vbx' = -4 | 60 1", "count 14 = 0", "count 3 = 0", "count 6 = 0", "count 12 = 1",
                "bearer 0 2 = 0");
    }

    private static void walkStops() {
        String[] ready = {"way '00'", "bearers '1,1;1,1;1,1;1,1;1,1;1,1;1,1'", "sayings '5+1a;6-1a;7+1b'"};
        String told = "18: till one can't be (it answers below 0)";
        Runs.go(Runs.of(told, ready), told, "walk '>t0' = 0 | 1 0", "count 5 = 0", "count 12 = 0");
        Runs.go(Runs.of(told, ready), told, "walk 't0>>>l0' = 3 | 1 2", "count 3 = 2", "count 5 = 1", "count 12 = 1");
        Runs.go(Runs.of(told, ready), told, "walk 't0t0t1' = 1 | 1 0", "count 5 = 1");
        Runs.go(Runs.of(told, ready), told, "walk 't0t1t2t3t4t5t6vb' = 6 | 1 0", "count 5 = 63", "count 6 = 0");
        Runs.go(Runs.of(told, ready), told, "walk 't7t0' = 0 | 1 0", "count 5 = 0");
        Runs.go(Runs.of(told, ready), told, "walk 'l0t0' = 0 | 1 0", "count 5 = 0");
        Runs.go(Runs.of(told, ready), told, "walk 'vbvbt0' = 1 | 1 0", "count 5 = 0");
        Runs.go(Runs.of(told, ready), told, "walk 's2t0' = 0 | 1 0", "count 5 = 0");
        Runs.go(Runs.of(told, ready), told, "walk 's0s1t0' = 1 | 1 0", "count 7 = 1", "count 5 = 0");
        Runs.go(Runs.of(told, ready), told, "walk 't0s0>s0l0' = 3 | 1 1", "count 7 = 1", "count 5 = 1");
        Runs.go(Runs.of(told, ready), told, "walk 't0>>s0l0' = 3 | 1 2", "count 7 = 0", "count 5 = 1");
        Runs.go(Runs.of(told, ready), told, "walk 's3t0' = 0 | 1 0", "count 5 = 0");
    }

    private static void undo() {
        Runs.of("19: how many are left that can be", "bearers '1,1;1,1'", "take 0", "take 1", "undo = 1",
                "count 5 = 1", "undo = 0", "count 5 = 0", "count 12 = 0");
        Runs.of("19: Refused: none", "undo = -1", "seventh 1", "undo = 0", "undo = -1", "count 6 = 0");
        Runs.of("19: of 12 that are kept, the latest ones", "bearers '1,1'", "way '000000000000'", "seventh 3",
                "take 0", "9 x step = 1", "count 12 = 11", "step = 1", "count 12 = 12", "2 x step = 1",
                "count 12 = 12", "leave 0", "count 12 = 12", "undo = 11", "count 5 = 1", "11 x undo", "count 3 = 1",
                "undo = -1", "count 3 = 1", "count 5 = 1", "count 6 = 3");
    }

    private static void undoEach() {
        Runs.of("19: a step(): AT, TIRED, SPOKEN, STAGGERS are as ahead of it", "way '00'", "bearers '1,1;1,1'",
                "sayings '1+1a'", "take 0", "step", "leave 0", "take 1", "say 0", "step", "bearer 0 2 = 1",
                "bearer 1 2 = 3", "count 8 = 0", "undo = 5", "count 3 = 1", "bearer 0 2 = 3", "bearer 1 2 = 0",
                "count 8 = 1", "count 9 = 1");
        Runs.of("19: a say(): LOAD, what was SAID, SPOKEN", "sayings '20+1a'", "load 5", "say 0 = 0", "undo = 0",
                "count 4 = 5", "count 7 = 0", "count 8 = 0");
        Runs.of("19: a take(), a leave(), a seventh()", "bearers '1,1'", "take 0", "leave 0", "seventh 2",
                "undo = 2", "count 6 = 0", "undo = 1", "count 5 = 1", "undo = 0", "count 5 = 0");
        Runs.of("19: LOAD is as ahead of it, though load() came since", "load 70", "seventh 1", "load 80",
                "undo = 0", "count 4 = 70");
        Runs.of("19: such as were done", "bearers '1,1'", "take 0", "take 0 = -2", "take 1 = -1", "leave 1 = -1",
                "seventh 0 = -2", "say 0 = -1", "count 12 = 1", "step", "step = -2", "count 12 = 2");
        Runs.of("19: walk() of which one ACT was done, as one", "bearers '1,1'", "walk 'vbvb' = 1", "count 12 = 1",
                "walk 'vb' = 0", "count 12 = 1", "walk 'vct0>' = 3", "count 12 = 2", "undo = 1", "count 6 = 1",
                "count 3 = 0", "count 5 = 0", "undo = 0", "count 6 = 0");
    }

    private static void undoForgets() {
        String[] ready = {"way '00'", "bearers '1,1'", "sayings '1+1a'", "keep 0", "take 0", "step"};
        Runs.go(Runs.of("19", ready), "19: way() forgets them", "way '0'", "count 12 = 0", "undo = -1");
        Runs.go(Runs.of("19", ready), "19: bearers() forgets them", "bearers '1,1'", "count 12 = 0", "undo = -1");
        Runs.go(Runs.of("19", ready), "19: sayings() forgets them", "sayings '1+1'", "count 12 = 0", "undo = -1");
        Runs.go(Runs.of("19", ready), "19: again() forgets them", "again 0 = true", "count 12 = 0", "undo = -1");
        Runs.go(Runs.of("19", ready), "19: if they are not refused", "way 'x' = -1", "bearers 'x' = -1",
                "sayings 'x' = -1", "again 1 = false", "again 2 = false", "count 12 = 2", "undo = 1", "count 3 = 0");
        Runs.go(Runs.of("19", ready), "19: those that read an empty text do not", "bearers '' = 0",
                "sayings '' = 0", "walk '' = 0", "way '' = -1", "rule '' = 0", "count 12 = 2", "undo = 1",
                "count 3 = 0");
        Runs.go(Runs.of("19", ready), "19: others do not", "rule '7'", "load 7", "sheet 2 2 1 1", "old 1 1",
                "claim 0 0 1", "keep 1", "count 12 = 2", "undo = 1", "count 3 = 0");
    }

    private static void ahead() {
        String[] ready = {"way '000000000000'", "bearers '40,1'", "load 41", "take 0"};
        Runs.go(Runs.of("20", ready), "20: the next n STEPS (0 .. 12)", "ahead 0 = 0 | 0 0", "ahead 1 = 1 | 1 3",
                "ahead 12 = 12 | 12 36");
        Runs.go(Runs.of("20", ready), "20: NONE: another n", "force | 41 1", "ahead 13 = -1 | 41 1",
                "ahead -1 = -1 | 41 1", "ahead MIN = -1", "ahead MAX = -1");
        Runs.of("20: -3: nobody carries (asked first)", "ahead 1 = -3", "ahead 13 = -3", "ahead -1 = -3",
                "bearers '1,1'", "ahead 0 = -3");
        Runs.of("20: the hill ends it", "way '00'", "bearers '40,1'", "take 0", "ahead 12 = 2 | 2 6", "step",
                "ahead 2 = 1 | 2 6", "step", "ahead 12 = 0 | 2 6", "ahead 0 = 0 | 2 6");
        Runs.of("20: nobody carries, on the hill", "bearers '1,1'", "take 0", "step", "leave 0", "ahead 1 = -3");
        Runs.of("20: TIRED of all BEARERS together", "way '0000'", "bearers '1,1;1,1'", "take 0", "step", "leave 0",
                "take 1", "ahead 0 = 0 | 1 3", "ahead 1 = 1 | 2 4", "ahead 2 = 2 | 3 6");
    }

    private static void first() {
        fifty("21: The CORNER from which they STAGGER first", "load 47", "first = -2", "load 48", "first = 3",
                "load 49", "first = 2", "load 50", "first = 1", "load 51", "first = 0");
        fifty("21: -2: from none till the hill", "load 47", "first = -2", "load 999", "4 x step", "first = -2");
        fifty("21: from where they are", "load 999", "2 x step", "first = 2");
        Runs.of("21: -3: nobody carries", "first = -3", "bearers '1,1'", "first = -3", "take 0", "step", "leave 0",
                "first = -3");
    }

    private static void bears() {
        fifty("22: The greatest LOAD without a STAGGER", "bears = 47", "load 0", "bears = 47", "load 999",
                "bears = 47");
        Runs.of("22: being TIRED counts", "way '0000'", "bearers '40,1'", "take 0", "bears = 39", "way '000'",
                "bears = 40");
        fifty("22: -2: with none", "rule '3'", "bears = 0", "rule '2'", "bears = -2", "rule '2+(c=3)'", "bears = 0");
        fifty("22: (0 .. 999): on the hill", "4 x step", "bears = 999");
        Runs.of("22: the most that six can", SIX, "rule '999'", "take 0", "take 1", "take 2", "take 3", "take 4",
                "take 5", "bears = 594");
        Runs.of("22: -3: nobody carries", "bears = -3", "bearers '1,1'", "bears = -3", "take 0", "step", "leave 0",
                "bears = -3");
    }

    private static void hush() {
        String sayings = "sayings '1+0a;1+0a;1+0a;1+0a;9-0a;9+0b'";
        fifty("23: (0 .. 3): none", sayings, "load 47", "hush = 0 |", "count 13 = 0");
        fifty("23: (0 .. 3): one", sayings, "load 48", "hush = 1 | 0 0");
        fifty("23: (0 .. 3): two", sayings, "load 49", "hush = 2 | 0 0 1 1");
        fifty("23: (0 .. 3): three", sayings, "load 50", "hush = 3 | 0 0 1 1 2 2");
        fifty("23: -2: three do not do", sayings, "load 51", "force | 51 1", "hush = -2 | 51 1");
        fifty("23: of as few the least row", "sayings '1+0a;2+0a;1+0a;2+0a'", "load 49", "hush = 1 | 0 1",
                "load 50", "hush = 2 | 0 0 1 1", "load 51", "hush = 2 | 0 1 1 3");
        fifty("23: one at a CORNER at most", "sayings '2+0a;2+0a'", "load 51", "3 x step", "hush = -2", "load 49",
                "hush = 1 | 3 0");
        fifty("23: not at this CORNER, if it is SPOKEN here", "sayings '1+0a;2+0a'", "load 50", "say 0 = 49",
                "hush = 1 | 1 1", "load 50", "hush = -2");
        fifty("23: SPOKEN here, and just enough here", "sayings '1+0a;3+0a'", "load 51", "say 0 = 50",
                "hush = 1 | 1 1");
        fifty("23: just enough at a CORNER between", "sayings '1+0a;3+0a'", "load 51", "hush = 2 | 0 0 1 1");
        // 51, less 1 and 8 at two CORNERS, is still 42: 41 are borne at CORNER 1
        fifty("23: one at a CORNER at most, though three would do", "way '0900'", "sayings '1+0a;1+0a;8+0a'",
                "load 51", "hush = -2", "load 50", "hush = 2 | 0 0 1 2");
        Runs.of("23: twelve CORNERS", "way '000000000001'", "bearers '1,1'", "rule '50'", "take 0",
                "sayings '1+0a;1+0a'", "load 51", "hush = 2 | 0 0 1 1", "bears = 49", "load 49", "hush = 0 |",
                "first = -2", "load 50", "hush = 1 | 0 0", "first = 11", "11 x step = 0", "hush = 1 | 11 0",
                "step = 1", "bears = 999", "hush = 0 |");
        fifty("23: SPOKEN here, and they STAGGER here", "sayings '1+0a;9+0a'", "load 52", "say 0 = 51", "hush = -2");
        fifty("23: LOAD is 0 at least", "rule '3'", "sayings '20+0a'", "load 3", "hush = 1 | 0 0");
    }

    private static void hushNot() {
        fifty("23: that THE SEVENTH knows", "sayings '9+0b'", "load 48", "hush = -2", "seventh 1", "hush = 1 | 0 0");
        fifty("23: that was not SAID", "sayings '1+0a'", "say 0", "load 48", "step", "hush = -2");
        fifty("23: a false one does not do", "sayings '9-0a'", "load 48", "hush = -2");
        fifty("23: without SAYINGS", "load 48", "hush = -2", "load 47", "hush = 0 |");
        fifty("23: on the hill", "4 x step", "load 999", "hush = 0 |");
        Runs.of("23: -3: nobody carries", "hush = -3", "bearers '1,1'", "hush = -3", "take 0", "step", "leave 0",
                "hush = -3");
        fifty("23: nothing else being done: nothing changes", "sayings '1+0a;1+0a;1+0a'", "load 50", "hush = 3",
                "count 7 = 0", "count 3 = 0", "count 4 = 50");
    }

    private static void which() {
        String sayings = "sayings '1+0abd;1+0ab;1+0ab;2+0d'";
        fifty("24: of equal ones the first; the ROW: four numbers", sayings, "load 47", "which = 0 | 0 0 0 0");
        fifty("24: the ROW: -2 as there", sayings, "load 48", "which = 0 | 1 1 -2 1", "load 49",
                "which = 3 | 2 2 -2 1", "load 50", "which = 3 | 3 3 -2 2");
        fifty("24: three with each", "sayings '1+0ab;1+0ab;1+0ab'", "load 50", "which = 0 | 3 3 -2 -2");
        fifty("24: whoever walks behind now", sayings, "seventh 2", "load 49", "which = 3 | 2 2 -2 1", "count 6 = 2");
        fifty("24: -2: with none", sayings, "load 52", "which = -2", "count 6 = 0");
        fifty("24: without SAYINGS", "load 47", "which = 0 | 0 0 0 0", "load 48", "which = -2");
        fifty("24: on the hill", sayings, "4 x step", "load 999", "which = 0 | 0 0 0 0");
        Runs.of("24: -3: nobody carries", "which = -3", "bearers '1,1'", "which = -3", "take 0", "step", "leave 0",
                "which = -3");
    }

    private static void could() {
        Runs.of("25: SAYINGS that THE SEVENTH can say here now (bits)", "sayings '1+0a;1+0b;1-0a;1+0'",
                "could = 5 | 0 59", "seventh 1", "could = 2 | 1 59");
        Runs.of("25: (of like ones the first)", "sayings '1+0a;7+0a;7+0a'", "could = 7 | 1 53", "load 5",
                "could = 7 | 1 0", "load 1", "could = 7 | 0 0", "load 0", "could = 7 | 0 0");
        Runs.of("25: of like ones the first, the heaviest there is", "sayings '9-0a;7-0a;8-0a'", "could = 7 | 1 67",
                "load 991", "could = 7 | 1 998", "load 992", "could = 7 | 0 999");
        Runs.of("25: (NONE, if there is none; LOAD as it is)", "could = 0 | -1 60", "sayings '9+0b'",
                "could = 0 | -1 60");
        Runs.of("25: none, if it is SPOKEN here", "sayings '9+0a;9+0a'", "say 0", "could = 0 | -1 51");
        Runs.of("25: none that was SAID", "way '00'", "bearers '1,1'", "take 0", "sayings '9+0a;9+0a'", "say 0",
                "step", "could = 2 | 1 42");
        Runs.of("25: none on the hill", "bearers '1,1'", "take 0", "sayings '9+0a'", "step", "could = 0 | -1 60");
    }
}
