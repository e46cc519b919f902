/** The terms and promises 1 to 12: every sentence that names an edge has a run of its own. */
public final class EdgesOfTextsTest {
    private static final String FORTY = "s+s+s+s+s+s+s+s+s+s+s+s+s+s+s+s+s+s+s+1-";

    public static void main(String[] args) {
        termsOfWays();
        termsOfBearers();
        termsOfSayings();
        termsOfRules();
        termsOfThings();
        termsOfSteps();
        termsOfRows();
        newObject();
        sign();
        end();
        way();
        wayBegins();
        bearers();
        bearersLines();
        bearersRoom();
        sayings();
        sayingsLines();
        sayingsRoom();
        rule();
        bearer();
        saying();
        force();
        load();
        sheet();
        sheetEntries();
        Check.end();
    }

    private static void termsOfWays() {
        Runs.of("CORNERS 0 .. (1 .. 12 of them, at first 1)", "count 0 = 1", "way '7' = 1", "count 0 = 1",
                "way '012345678901' = 12", "count 0 = 12");
        Runs.of("each STEEP 0 .. 9 (at first 0)", "force | 60 0", "way '09'", "force | 60 0", "bearers '40,1;40,1'",
                "take 0", "take 1", "step", "force | 69 2");
        Runs.of("They are at a CORNER (AT, at first 0)", "count 3 = 0");
        Runs.of("AT is then how many CORNERS there are: the hill", "way '000'", "bearers '40,1;40,1'", "take 0",
                "take 1", "3 x step = 0", "count 3 = 3", "step = -2", "count 3 = 3");
        Runs.of("LOAD 0 .. 999 (at first 60)", "count 4 = 60", "load 0 = 60", "load 999 = 0", "count 4 = 999");
    }

    private static void termsOfBearers() {
        Runs.of("BEARERS 0 .. (at most 8)", "count 1 = 0", "bearers '1,1;1,1;1,1;1,1;1,1;1,1;1,1;1,1' = 8",
                "bearers '1,1' = -1", "count 1 = 8", "bearer 7 0 = 1", "bearer 8 0 = throws");
        Runs.of("STRENGTH 1 .. 40", "bearers '1,1;40,1' = 2", "bearer 0 0 = 1", "bearer 1 0 = 40",
                "bearers '0,1' = -1", "bearers '41,1' = -2");
        Runs.of("HEIGHT 1 .. 9", "bearers '1,1;1,9' = 2", "bearer 0 1 = 1", "bearer 1 1 = 9", "bearers '1,0' = -3");
        Runs.of("TIRED 0 .. 99 (at first 0)", "bearers '1,1' = 1", "bearer 0 2 = 0");
        Runs.of("CARRYING or not (at first not; six at most are)", "bearers '1,1;1,1;1,1;1,1;1,1;1,1;1,1'",
                "count 5 = 0", "bearer 0 3 = 0", "take 1 = 1", "take 2 = 2", "take 3 = 3", "take 4 = 4",
                "take 5 = 5", "take 6 = 6", "take 0 = -3", "count 5 = 126", "bearer 0 3 = 0");
        Runs.of("each one more", "bearers '3,3' = 1", "bearers '4,4;5,5' = 2", "count 1 = 3", "bearer 0 0 = 3",
                "bearer 2 0 = 5");
    }

    private static void termsOfSayings() {
        Runs.of("SAYINGS 0 .. (at most 8)", "count 2 = 0", "sayings '1+1;1+1;1+1;1+1;1+1;1+1;1+1;1+1' = 8",
                "sayings '1+1' = -1", "count 2 = 8", "saying 7 0 = 1", "saying 8 0 = throws");
        Runs.of("HEAVY 1 .. 20", "sayings '1+0;20+0' = 2", "saying 0 0 = 1", "saying 1 0 = 20",
                "sayings '0+0' = -1", "sayings '21+0' = -2");
        Runs.of("HARM 0 .. 9", "sayings '1+0;1+9' = 2", "saying 0 2 = 0", "saying 1 2 = 9");
        Runs.of("KNOWN to some of four SEVENTHS (0 .. 3, bits)", "sayings '1+0a;1+0b;1+0c;1+0d;1+0abcd' = 5",
                "saying 0 3 = 1", "saying 1 3 = 2", "saying 2 3 = 4", "saying 3 3 = 8", "saying 4 3 = 15");
        Runs.of("letters a .. d (those who know it, rising; perhaps none)", "sayings '1+0' = 1", "saying 0 3 = 0",
                "sayings '1+0ad' = 1", "saying 1 3 = 9", "sayings '1+0da' = -5");
        Runs.of("SAID or not (at first not)", "sayings '1+0a'", "saying 0 4 = 0", "count 7 = 0", "count 15 = 0");
        Runs.of("THE SEVENTH who walks behind: 0 .. 3 (at first 0)", "count 6 = 0", "seventh 3 = 0", "count 6 = 3");
        Runs.of("SPOKEN: at this CORNER something was SAID already", "way '00'", "bearers '1,1'", "take 0",
                "sayings '1+0a'", "count 8 = 0", "say 0", "count 8 = 1", "step", "count 8 = 0");
    }

    private static void worth(String sentence, String rule, int due) {
        Runs.of(sentence, "bearers '30,5'", "rule '" + rule + "' = 0", "bearer 0 4 = " + due, "take 0",
                "force = " + due);
    }

    private static void termsOfRules() {
        Runs.of("THE RULE (at first none: s-t/3-(x-h))", "way '00'", "bearers '30,5;20,7'", "take 0", "take 1",
                "force = 48", "step = 1", "bearer 0 2 = 3", "bearer 0 4 = 27", "bearer 1 4 = 19", "force = 46");
        worth("< > = bind least", "1+1<1+2", 1);
        worth("< > = bind least", "2*3=3+3", 1);
        worth("< > = (1 or 0)", "3<3", 0);
        worth("< > = (1 or 0)", "3>3", 0);
        worth("< > = (1 or 0)", "3=3", 1);
        worth("< > = (1 or 0)", "4>3", 1);
        worth("< > = (1 or 0)", "3=4", 0);
        worth("< > = (1 or 0)", "20+(3<3)", 20);
        worth("< > = (1 or 0)", "20+(3>3)", 20);
        worth("< > = (1 or 0)", "20+(3=4)", 20);
        for (String second : new String[] {"<", ">", "="}) {
            Runs.of("< > = (not one behind the other)", "rule '1<2" + second + "3' = -4",
                    "rule '1=2" + second + "3' = -4", "rule '(1>2" + second + "3)' = -5",
                    "rule '1>(2" + second + "3)' = 0");
        }
        worth("+ - (from the left)", "9-5-3", 1);
        worth("+ - (from the left)", "9-5+3", 7);
        worth("* / bind more than + -", "20-2*3", 14);
        worth("* / (from the left)", "90/4/2", 11);
        worth("* / (from the left)", "9/4*4", 8);
        worth("/ (by 0: 0)", "7/0", 0);
        worth("/ (by 0: 0)", "8+7/0*5", 8);
        worth("/ (by 0: 0)", "8+0/(3-3)", 8);
        worth("/ (cut to 0)", "50+-7/2", 47);
        worth("/ (cut to 0)", "50+7/-2", 47);
        worth("/ (cut to 0)", "50+-7/-2", 53);
        worth("- ahead of a thing (any many)", "--7", 7);
        worth("- ahead of a thing (any many)", "10---7", 3);
        worth("- ahead of a thing (any many)", "10*-1+17", 7);
        worth("- ahead of a thing (any many)", "--------------------------------------s", 30);
        worth("- ahead of a thing (any many)", "---------------------------------------s", 0);
    }

    private static void termsOfThings() {
        Runs.of("s STRENGTH, t TIRED, h HEIGHT", "way '00'", "bearers '30,5'", "take 0", "step = 1", "rule 's' = 0",
                "force = 30", "rule 't' = 0", "force = 3", "rule 'h' = 0", "force = 5");
        worth("a NUMBER of 1 to 3 digits", "7", 7);
        worth("a NUMBER of 1 to 3 digits", "000", 0);
        worth("a NUMBER of 1 to 3 digits", "999/20", 49);
        Runs.of("a NUMBER of 1 to 3 digits", "rule '1000' = -4", "rule '0001' = -4", "rule '5+1000' = -6");
        worth("an EXPRESSION in ( ) (at most 4 in one another)", "((((7))))", 7);
        worth("an EXPRESSION in ( ) (at most 4 in one another)", "(1)+(1)+(1)+(1)+(1)+((((1))))", 6);
        Runs.of("an EXPRESSION in ( ) (at most 4 in one another)", "rule '(((((7)))))' = -5",
                "rule '1+(1+(1+(1+(1+(1)))))' = -15");
        Runs.of("x the greatest HEIGHT of those, n how many they are", "bearers '1,2;1,7;1,9'", "take 0",
                "rule '10*n+x'", "bearer 0 4 = 12", "bearer 1 4 = 27", "take 1", "bearer 0 4 = 27",
                "bearer 2 4 = 39", "force = 54");
        Runs.of("c STEEP of the CORNER at which they are (0 on the hill)", "way '35'", "bearers '1,1'", "take 0",
                "rule '50+c'", "force = 53", "step", "force = 55", "step", "force = 50");
        Runs.of("(0 on the hill), though an earlier way had a CORNER there", "way '999'", "way '0'",
                "bearers '1,1'", "take 0", "rule '50+c'", "step", "force = 50 | 60 1");
        Runs.of("i its number", "way '35'", "bearers '1,1;1,1;1,1'", "take 0", "take 2", "rule '10*i'",
                "force = 20", "bearer 1 4 = 10", "step", "force = 20", "step", "force = 20");
        worth("As ints", "512*512*512*16<0", 1);
        worth("As ints", "512*512*512*16-1>0", 1);
        worth("As ints", "512*512*512*32+7", 7);
        worth("As ints", "-(512*512*512*16)<0", 1);
        worth("As ints", "512*512*512*16/-1<0", 1);
        Runs.of("without a rule too: put to 0 .. 99", "bearers '8,1;9,1;7,1;40,9'", "take 0", "take 1", "take 2",
                "take 3", "bearer 0 4 = 0", "bearer 1 4 = 1", "bearer 2 4 = 0", "force = 41");
        worth("put to 0 .. 99", "100", 99);
        worth("put to 0 .. 99", "99", 99);
        worth("put to 0 .. 99", "98", 98);
        worth("put to 0 .. 99", "0", 0);
        worth("put to 0 .. 99", "0-1", 0);
        Runs.of("added up for all of them: FORCE, each put to 0 .. 99 ahead of it", "bearers '40,1;1,1'", "take 0",
                "take 1", "rule '4*s-20' = 0", "force = 99");
    }

    private static void termsOfSteps() {
        Runs.of("they STAGGER, if FORCE is less than LOAD and STEEP of the CORNER, added", "way '55'",
                "bearers '40,1;25,1'", "take 0", "take 1", "step = 0", "load 61", "step = 1");
        Runs.of("1 more TIRED", "way '0'", "bearers '40,1'", "take 0", "load 40", "step = 0", "bearer 0 2 = 1");
        Runs.of("2 more besides if they STAGGER", "way '0'", "bearers '40,1'", "take 0", "load 41", "step = 1",
                "bearer 0 2 = 3");
        // 32 STAGGERS: 96; two more STEPS: 98
        Runs.of("(99 at most)", "way '000000000000'", "bearers '40,1;40,1'", "take 0", "load 999", "12 x step = 1",
                "way '000000000000'", "12 x step = 1", "way '000000000000'", "8 x step = 1", "load 0",
                "2 x step = 0", "bearer 0 2 = 98", "load 999", "step = 1", "bearer 0 2 = 99", "load 0", "step = 0",
                "bearer 0 2 = 99", "way '0'", "take 1", "leave 0", "step", "bearer 0 2 = 97");
        Runs.of("each other one 2 less (0 at least)", "way '00000'", "bearers '40,1;40,1;40,1'", "take 0",
                "load 99", "step = 1", "bearer 0 2 = 3", "take 1", "leave 0", "step = 1", "bearer 0 2 = 1",
                "bearer 2 2 = 0", "step", "bearer 0 2 = 0", "step", "bearer 0 2 = 0");
        Runs.of("AT is 1 more, nothing is SPOKEN there yet", "way '00'", "bearers '1,1'", "take 0",
                "sayings '1+0a;1+0a'", "say 0 = 59", "say 1 = -4", "step", "count 3 = 1", "count 8 = 0",
                "say 1 = 58");
        Runs.of("LOAD is HEAVY less, if it is TRUE (0 at least)", "sayings '20+0a'", "load 21", "say 0 = 1", "undo",
                "load 20", "say 0 = 0", "undo", "load 19", "say 0 = 0", "count 4 = 0");
        Runs.of("else HEAVY more (999 at most)", "sayings '20-0a'", "load 978", "say 0 = 998", "undo", "load 979",
                "say 0 = 999", "undo", "load 980", "say 0 = 999", "count 4 = 999");
    }

    private static void termsOfRows() {
        Runs.of("ROW: numbers told last by a call that says so", "count 13 = 0", "row 0 = throws", "force | 60 0",
                "load 7", "count 4", "seventh 1", "keep 0", "undo", "count 13 = 2 | 60 0", "force | 7 0");
        Runs.of("Fractions are told in lowest terms (0 by 1)", "bearers '40,1;40,1'", "take 0", "take 1", "load 80",
                "slips 5 = 0 | 1 4", "slips 10 = 0 | 0 1", "load 81", "slips 0 = 0 | 0 1", "load 0",
                "slips 7 = 0 | 1 1");
    }

    private static void newObject() {
        Runs.of("1: One CORNER; no BEARERS, no SAYINGS", "count 0 = 1", "count 1 = 0", "count 2 = 0",
                "bearer 0 0 = throws", "saying 0 0 = throws", "force = 0 | 60 0");
        Runs.of("An object is used for at most 512 calls", "way '0000'", "bearers '40,1;40,1'", "take 0", "take 1",
                "240 x load 5", "240 x count 4 = 5", "load 60", "3 x step = 0", "ahead 12 = 0 | 4 8", "undo = 4");
    }

    private static void sign() {
        Runs.of("2: Four signs come behind THE TEXT, of v the highest byte first", "sign 825373492 = 4",
                "count 14 = 4", "way = 4", "bearers '1,1'", "take 0", "rule 'c'", "force = 1", "step", "force = 2",
                "step", "force = 3", "step", "force = 4");
        // 57, 255, 57, 57: the second sign alone can't stand
        Runs.of("2: bytes above 127 are signs too", "sign 973027641 = 4", "way = -2", "sign -1 = 4", "way = -1");
        Runs.of("2: how many it has", "sign 0 = 4", "sign MIN = 8", "sign MAX = 12");
        Runs.of("2: Refused: there would be more than 80", "19 x sign 0", "count 14 = 76", "sign 0 = 80",
                "sign 0 = -1", "count 14 = 80", "end 79 = true", "sign 0 = -1", "end 78 = true", "sign 0 = -1",
                "end 77 = true", "sign 0 = -1", "count 14 = 77", "end 76 = true", "sign 0 = 80");
    }

    private static void end() {
        Runs.of("3: THE TEXT has its first n signs alone: true", "sign 959524152", "end 2 = true", "count 14 = 2",
                "way = 2", "force | 69 0");
        Runs.of("3: as many as it has", "sign 0", "end 4 = true", "count 14 = 4");
        Runs.of("3: none of an empty one", "end 0 = true", "sign 0", "end 0 = true", "count 14 = 0");
        Runs.of("3: false if it has not so many", "end 1 = false", "sign 825373492", "end 5 = false",
                "end MAX = false", "count 14 = 4", "way = 4");
        Runs.of("3: or n is below 0", "sign 825373492", "end -1 = false", "end MIN = false", "count 14 = 4",
                "way = 4");
    }

    private static void way() {
        Runs.of("4: how many CORNERS", "way '0' = 1", "way '000000000000' = 12");
        Runs.of("4: the sign at p can't stand there", "way '/' = -1", "way ':' = -1", "way '0a' = -2",
                "way '12345678901 ' = -12", "way '1 x' = -2");
        Runs.of("4: (its end for none)", "way '' = -1", "way = -1");
        Runs.of("4: (a thirteenth sign: at it)", "way '1111111111111' = -13", "way '111111111111x' = -13",
                "way '11111111111111111111111111111111111111111111111111111111111111111111111111111111' = -13");
        Runs.of("4: a wrong sign ahead of the thirteenth counts", "way '11111111111x1' = -12");
        Runs.of("4: the first of two wrong signs counts", "way 'x111111111111' = -1", "way '1x1x' = -2");
        Runs.of("4: a sign of 0 can't stand there either", "sign 822083584 = 4", "way = -2", "sign 0 = 4",
                "way = -1");
        Runs.of("4: refused at its first sign", "way '53'", "bearers '40,1'", "take 0", "step", "way 'x12' = -1",
                "way '' = -1", "count 0 = 2", "count 3 = 1", "force | 63 1", "count 12 = 2");
        Runs.of("4: a refused one changes nothing but THE TEXT", "way '53'", "bearers '40,1;40,1'",
                "sayings '1+1a'", "take 0", "take 1", "step", "say 0", "keep 0", "way '1x' = -2", "count 14 = 0",
                "count 0 = 2", "count 3 = 1", "count 8 = 1", "force | 62 2", "again 0 = true", "load 60",
                "step = 0", "undo = 0");
    }

    private static void wayBegins() {
        String[] walked = {"way '53'", "bearers '40,1;40,1'", "sayings '1+1a'", "take 0", "take 1", "step", "say 0",
                "keep 1"};
        Runs.go(Runs.of("4: walked", walked), "4: AT is 0, nothing is SPOKEN there yet", "way '444' = 3",
                "count 3 = 0", "count 8 = 0", "force | 63 2");
        Runs.go(Runs.of("4: walked", walked), "4: nothing can be undone", "way '444' = 3", "count 12 = 0",
                "undo = -1");
        Runs.go(Runs.of("4: walked", walked), "4: nothing is kept", "way '444' = 3", "again 1 = false", "keep 1",
                "again 1 = true");
    }

    private static void bearers() {
        Runs.of("5: (an empty one: nothing)", "bearers '1,1'", "take 0", "keep 0", "bearers '' = 0", "count 1 = 1",
                "count 12 = 1", "again 0 = true");
        Runs.of("5: how many LINES", "bearers '1,1' = 1", "bearers '1,1;1,1;1,1' = 3");
        Runs.of("5: the sign at p can't stand there", "bearers 'x' = -1", "bearers ';1,1' = -1",
                "bearers ',1' = -1", "bearers '1;1' = -2", "bearers '1.1' = -2", "bearers '12x1' = -3",
                "bearers '1,x' = -3", "bearers '1,:' = -3", "bearers '1,12' = -4", "bearers '1,1,' = -4",
                "bearers '1,1;x' = -5", "bearers '1,1;;' = -5", "bearers '1,1 ;1,1' = -4", "count 1 = 0");
        Runs.of("5: (its end, if it ends too early)", "bearers '1' = -2", "bearers '12' = -3", "bearers '1,' = -3",
                "bearers '12,' = -4", "bearers '1,1;' = -5", "bearers '1,1;1' = -6", "bearers '1,1;1,' = -7");
        Runs.of("5: a number of 1 or 2 digits", "bearers '100,1' = -3", "bearers '040,1' = -3",
                "bearers '04,1' = 1", "bearer 0 0 = 4");
        Runs.of("5: (STRENGTH that is not 1 .. 40: at its last digit)", "bearers '0' = -1", "bearers '0,1' = -1",
                "bearers '00,1' = -2", "bearers '41' = -2", "bearers '41,1' = -2", "bearers '99,1' = -2",
                "bearers '411' = -2", "bearers '1,1;0,1' = -5", "bearers '1,1;41,1' = -6", "count 1 = 0",
                "bearers '40,1;1,1;39,1' = 3");
        Runs.of("5: the first of two wrong things counts", "bearers '0,0' = -1", "bearers '41,0' = -2",
                "bearers '1,0;0,1' = -3", "bearers 'x,0' = -1");
        Runs.of("5: a sign of 0 can't stand there either", "sign 824979712 = 4", "bearers = -4", "count 1 = 0",
                "sign 0", "bearers = -1");
        Runs.of("5: a digit (HEIGHT, not 0)", "bearers '1,0' = -3", "bearers '1,01' = -3", "bearers '1,9' = 1");
    }

    private static void bearersLines() {
        Runs.of("5: Nothing of it comes, if a LINE can't", "bearers '1,1;2,2;3,0' = -11", "count 1 = 0",
                "bearers '5,5' = 1", "bearers '6,6;x' = -5", "count 1 = 1", "bearer 0 0 = 5", "bearer 1 0 = throws",
                "bearers '7,7' = 1", "bearer 1 0 = 7");
        Runs.of("5: a refused one changes nothing but THE TEXT", "bearers '5,5'", "take 0", "keep 0",
                "bearers '6,6;x' = -5", "count 14 = 0", "count 12 = 1", "again 0 = true", "take 0 = -2");
    }

    private static void bearersRoom() {
        Runs.of("5: (the first sign of a LINE for which there is no room)",
                "bearers '1,1;1,1;1,1;1,1;1,1;1,1;1,1;1,1;1,1' = -33", "count 1 = 0",
                "bearers '40,9;40,9;40,9;40,9;40,9;40,9;40,9;40,9;1' = -41",
                "bearers '1,1;1,1;1,1;1,1;1,1;1,1;1,1' = 7", "bearers '1,1;1,1' = -5", "count 1 = 7",
                "bearers '40,9' = 1", "bearers '1,1' = -1", "bearers 'x' = -1", "bearers '0' = -1",
                "bearers '' = 0", "count 1 = 8");
        Runs.of("5: eight LINES and a ; more: its end", "bearers '1,1;1,1;1,1;1,1;1,1;1,1;1,1;1,1;' = -33");
        // 48 signs can't all stand: eight LINES have 39 at most
        Runs.of("5: a text of more than 48 signs is refused where its first wrong sign is",
                "bearers '40,9;40,9;40,9;40,9;40,9;40,9;40,9;40,9;40,9;40,9;40,9' = -41",
                "bearers '1,1;1,1;xxxxxxxxxxxxxxxxxxxxxxxxxxxxxxxxxxxxxxxxxxxxxxxxxxxxxxxx' = -9");
    }

    private static void sayings() {
        Runs.of("6: (an empty one: nothing)", "sayings '1+1a'", "say 0", "keep 0", "sayings '' = 0", "count 2 = 1",
                "count 12 = 1", "again 0 = true");
        Runs.of("6: how many LINES", "sayings '1+1' = 1", "sayings '1+1;1-1abcd;1+1b' = 3");
        Runs.of("6: the sign at p can't stand there", "sayings 'x' = -1", "sayings '+1' = -1",
                "sayings ';1+1' = -1", "sayings '1*1' = -2", "sayings '1,1' = -2", "sayings '1++' = -3",
                "sayings '1+:' = -3", "sayings '1+a' = -3", "sayings '1+11' = -4", "sayings '1+01' = -4",
                "sayings '1+00a' = -4", "sayings '1+1e' = -4", "sayings '1+1A' = -4", "sayings '1+1`' = -4",
                "sayings '1+1a1' = -5", "sayings '1+1;x' = -5", "sayings '1+1;;' = -5", "sayings '1+1ae' = -5",
                "count 2 = 0");
        Runs.of("6: its end, if it ends too early", "sayings '1' = -2", "sayings '12' = -3", "sayings '1+' = -3",
                "sayings '20-' = -4", "sayings '1+1;' = -5", "sayings '1+1abcd;' = -9", "sayings '1+1;1' = -6",
                "sayings '1+1;1-' = -7");
        Runs.of("6: a number of 1 or 2 digits", "sayings '100+1' = -3", "sayings '020+1' = -3",
                "sayings '02+1' = 1", "saying 0 0 = 2");
        Runs.of("6: (HEAVY that is not 1 .. 20: at its last digit)", "sayings '0' = -1", "sayings '0+1' = -1",
                "sayings '00+1' = -2", "sayings '21' = -2", "sayings '21+1' = -2", "sayings '99-1' = -2",
                "sayings '1+1;0+1' = -5", "sayings '1+1;21+1' = -6", "count 2 = 0", "sayings '20+1;1+1;19+1' = 3");
        Runs.of("6: the first of two wrong things counts", "sayings '0+1;21+1' = -1", "sayings '21+x' = -2",
                "sayings '1+1ba;0' = -5");
        Runs.of("6: a sign of 0 can't stand there either", "sign 824914176 = 4", "sayings = -4", "count 2 = 0",
                "sign 0", "sayings = -1");
        Runs.of("6: (a letter that is no more than the one ahead: at it)", "sayings '1+1aa' = -5",
                "sayings '1+1ba' = -5", "sayings '1+1dd' = -5", "sayings '1+1acb' = -6", "sayings '1+1abcda' = -8",
                "sayings '1+1abcdd' = -8", "sayings '1+1;1+1da' = -9", "count 2 = 0");
    }

    private static void sayingsLines() {
        Runs.of("6: Nothing of it comes, if a LINE can't", "sayings '1+1;2+2;3+x' = -11", "count 2 = 0",
                "sayings '5+5a' = 1", "sayings '6-6;x' = -5", "count 2 = 1", "saying 0 0 = 5",
                "saying 1 0 = throws", "sayings '7+7b' = 1", "saying 1 0 = 7", "saying 1 1 = 1", "saying 1 3 = 2");
        Runs.of("6: what a refused LINE told is not seen later", "sayings '6+6ab;x' = -7", "sayings '7-7' = 1",
                "saying 0 0 = 7", "saying 0 1 = 0", "saying 0 2 = 7", "saying 0 3 = 0");
        Runs.of("6: a refused one changes nothing but THE TEXT", "sayings '5+5a'", "say 0 = 55", "keep 0",
                "sayings '6-6;x' = -5", "count 14 = 0", "count 12 = 1", "again 0 = true", "say 0 = -2");
    }

    private static void sayingsRoom() {
        Runs.of("6: the first sign of a LINE for which there is no room",
                "sayings '1+1;1+1;1+1;1+1;1+1;1+1;1+1;1+1;1+1' = -33", "count 2 = 0",
                "sayings '20+9abcd;20+9abcd;20+9abcd;20+9abcd;20+9abcd;20+9abcd;20+9abcd;20+9abcd;1' = -73",
                "sayings '1+1;1+1;1+1;1+1;1+1;1+1;1+1' = 7", "sayings '1+1;1+1' = -5", "count 2 = 7",
                "sayings '20+9abcd' = 1", "sayings '1+1' = -1", "sayings 'x' = -1", "sayings '' = 0", "count 2 = 8");
        Runs.of("6: eight LINES and a ; more: its end", "sayings '1+1;1+1;1+1;1+1;1+1;1+1;1+1;1+1;' = -33",
                "count 2 = 0");
        Runs.of("6: 71 signs for eight LINES",
                "sayings '20+9abcd;20+9abcd;20+9abcd;20+9abcd;20+9abcd;20+9abcd;20+9abcd;20-0abcd' = 8",
                "saying 7 0 = 20", "saying 7 1 = 0", "saying 7 3 = 15");
        // 76 signs can't all stand: eight LINES have 71 at most
        Runs.of("6: a text of more than 76 signs is refused where its first wrong sign is",
                "sayings '20+9abcd;20+9abcd;20+9abcd;20+9abcd;20+9abcd;20+9abcd;20+9abcd;20+9abcd;20+9abc' = -73",
                "sayings '1+1;1+1;xxxxxxxxxxxxxxxxxxxxxxxxxxxxxxxxxxxxxxxxxxxxxxxxxxxxxxxxxxxxxxxxxxxxxxxx' = -9");
    }

    private static void rule() {
        Runs.of("7: THE TEXT is THE RULE: 0", "bearers '30,5'", "take 0", "rule '7' = 0", "force = 7");
        Runs.of("7: (an empty one: none)", "bearers '30,5'", "take 0", "rule '7' = 0", "rule '' = 0", "force = 30",
                "rule = 0", "force = 30");
        Runs.of("7: the sign at p can't stand there", "rule 'a' = -1", "rule 'S' = -1", "rule ')' = -1",
                "rule '*7' = -1", "rule '<7' = -1", "rule 's7' = -2", "rule '7s' = -2", "rule 'ss' = -2",
                "rule 's)' = -2", "rule 's(' = -2", "rule '()' = -2", "rule 's+*t' = -3", "rule 's<>t' = -3",
                "rule '(s)(t)' = -4", "rule '(s)7' = -4", "rule '(s t)' = -3", "rule '((((s)))))' = -10");
        Runs.of("7: its end, if it ends too early", "rule '-' = -2", "rule 's+' = -3", "rule 's<' = -3",
                "rule '(' = -2", "rule '(s' = -3", "rule '(s+' = -4", "rule '((((s)))' = -9", "rule '7*-' = -4");
        Runs.of("7: 40 signs", "bearers '1,5'", "take 0", "rule '" + FORTY.substring(0, 39) + "' = 0", "force = 20",
                "rule '" + FORTY.substring(0, 39) + "0' = 0", "force = 29");
        Runs.of("7: 40, if it has more and the first 40 could end", "rule '" + FORTY.substring(0, 39) + "00' = -41",
                "rule '" + FORTY.substring(0, 39) + "0x' = -41");
        Runs.of("7: 40, if it has more and the first 40 could go on", "rule '" + FORTY + "1' = -41",
                "rule '" + FORTY + "x' = -41", "rule '" + FORTY.substring(0, 38) + "-(s)' = -41",
                "rule '(" + FORTY.substring(0, 38) + "0)' = -41", "rule '" + FORTY + FORTY + "' = -41");
        Runs.of("7: a sign of 0 can't stand there either", "sign 1929379840 = 4", "rule = -2", "sign 0", "rule = -1");
        Runs.of("7: a wrong first sign counts, however many come behind it", "rule 'z" + FORTY + "' = -1",
                "rule ')" + FORTY + "1' = -1");
        Runs.of("7: a wrong sign ahead of it counts", "rule '" + FORTY.substring(0, 39) + "xx' = -40",
                "rule '" + FORTY.substring(0, 37) + "xss' = -38");
        Runs.of("7: 40 signs that end too early", "rule '" + FORTY + "' = -41");
        Runs.of("7: a refused one changes nothing but THE TEXT", "bearers '30,5'", "take 0", "rule '7' = 0",
                "rule '8x' = -2", "count 14 = 0", "force = 7", "rule '9+' = -3", "force = 7", "count 12 = 1");
    }

    private static void bearer() {
        Runs.of("8: what 0 .. 4", "bearers '30,5;20,9'", "take 0", "bearer 0 0 = 30", "bearer 0 1 = 5",
                "bearer 0 2 = 0", "bearer 0 3 = 1", "bearer 0 4 = 30", "bearer 1 3 = 0");
        Runs.of("8: (0 .. 99)", "bearers '30,5'", "rule '999'", "bearer 0 4 = 99", "rule '-999'", "bearer 0 4 = 0");
        Runs.of("8: among those that carry and it", "bearers '30,5;20,9;10,7'", "bearer 0 4 = 30", "take 1",
                "bearer 0 4 = 26", "bearer 2 4 = 8", "take 0", "bearer 0 4 = 26", "rule 'n'", "bearer 0 4 = 2",
                "bearer 2 4 = 3");
        Runs.of("8: NoSuchElementException: none such", "bearer 0 0 = throws", "bearers '30,5;20,9'",
                "bearer 2 0 = throws", "bearer -1 0 = throws", "bearer 8 4 = throws", "bearer MIN 0 = throws",
                "bearer MAX 0 = throws", "bearer 1 0 = 20");
        Runs.of("8: NoSuchElementException: another what", "bearers '30,5'", "bearer 0 5 = throws",
                "bearer 0 -1 = throws", "bearer 0 MIN = throws", "bearer 0 MAX = throws");
        Runs.of("8: both", "bearer 9 9 = throws", "bearer -1 -1 = throws");
    }

    private static void saying() {
        Runs.of("9: what 0 .. 5", "sayings '7+5bd;8-0a'", "saying 0 0 = 7", "saying 0 1 = 1", "saying 0 2 = 5",
                "saying 0 3 = 10", "saying 0 4 = 0", "saying 0 5 = 0", "saying 1 1 = 0", "saying 1 5 = 1",
                "seventh 1", "saying 0 5 = 1", "saying 1 5 = 0", "say 0", "saying 0 4 = 1", "saying 1 4 = 0");
        Runs.of("9: NoSuchElementException: none such", "saying 0 0 = throws", "sayings '7+5;8-0'",
                "saying 2 0 = throws", "saying -1 0 = throws", "saying 8 5 = throws", "saying MIN 0 = throws",
                "saying MAX 0 = throws", "saying 1 0 = 8");
        Runs.of("9: NoSuchElementException: another what", "sayings '7+5'", "saying 0 6 = throws",
                "saying 0 -1 = throws", "saying 0 MIN = throws", "saying 0 MAX = throws");
        Runs.of("9: both", "saying 9 9 = throws", "saying -1 -1 = throws");
    }

    private static void force() {
        Runs.of("10: nobody carries", "bearers '40,1'", "force = 0 | 60 0");
        Runs.of("10: what is needed (LOAD and STEEP), how many carry", "way '9'", "bearers '40,1;40,1'", "take 0",
                "force = 40 | 69 1", "take 1", "load 999", "force = 80 | 1008 2", "load 0", "force = 80 | 9 2");
        Runs.of("10: on the hill", "way '9'", "bearers '40,1;40,1'", "take 0", "step", "force = 39 | 60 1");
    }

    private static void load() {
        Runs.of("11: LOAD becomes v (0 .. 999): what it was", "load 0 = 60", "load 999 = 0", "load 5 = 999",
                "load 5 = 5", "count 4 = 5");
        Runs.of("11: Refused: others", "load -1 = -1", "load 1000 = -1", "load MIN = -1", "load MAX = -1",
                "count 4 = 60");
    }

    /** STEEP of all CORNERS, by a rule that tells it alone. */
    private static void steep(String sentence, String way, String sheet, String due) {
        SixToCarry x = Runs.of(sentence, "way '" + way + "'", "bearers '1,1'", "take 0", "rule 'c'", sheet);
        StringBuilder all = new StringBuilder();
        for (int k = 0; k < way.length(); k++) {
            all.append(x.force());
            x.step();
        }
        Check.due(sentence + " [" + sheet + "] STEEP", all.toString(), due);
    }

    private static void sheet() {
        steep("12: those behind it have 0: the sum of all", "7777", "sheet 2 2 5 1 = 11", "5600");
        steep("12: n of 0", "7777", "sheet 0 0 5 1 = 0", "0000");
        steep("12: as many as CORNERS", "7777", "sheet 1 4 1 1 = 10", "1234");
        steep("12: 12 entries", "777777777777", "sheet 2 12 0 1 = 63", "012345678999");
        steep("12: more entries than CORNERS: CORNERS have STEEP alone", "77", "sheet 2 12 3 1 = 7", "34");
        steep("12: -2: n below 0 (of kinds 0 .. 2; nothing changes)", "7777", "sheet 0 -1 5 1 = -2", "7777");
        steep("12: -2: n below 0 (of kinds 0 .. 2; nothing changes)", "7777", "sheet 1 -1 5 1 = -2", "7777");
        steep("12: -2: n below 0 (of kinds 0 .. 2; nothing changes)", "7777", "sheet 2 MIN 5 1 = -2", "7777");
        steep("12: -3: missing (all 0)", "7777", "sheet 3 2 5 1 = -3", "0000");
        steep("12: -3: missing, n of 12", "7777", "sheet 3 12 5 1 = -3", "0000");
        steep("12: -3: missing, n below 0", "7777", "sheet 3 -1 5 1 = -3", "0000");
        steep("12: NONE: another kind", "7777", "sheet 4 2 5 1 = -1", "7777");
        steep("12: NONE: another kind", "7777", "sheet -1 2 5 1 = -1", "7777");
        steep("12: NONE: another kind", "7777", "sheet MAX 2 5 1 = -1", "7777");
        steep("12: NONE: n above 12", "7777", "sheet 0 13 5 1 = -1", "7777");
        steep("12: NONE: n above 12", "7777", "sheet 2 MAX 5 1 = -1", "7777");
        steep("12: (these first): another kind, n below 0", "7777", "sheet 4 -1 5 1 = -1", "7777");
        steep("12: (these first): missing, n above 12", "7777", "sheet 3 13 5 1 = -1", "7777");
    }

    private static void sheetEntries() {
        steep("12: bytes: the lowest bits, with their sign", "7777", "sheet 0 4 126 1 = 18", "9900");
        steep("12: bytes: 256 is 0", "7777", "sheet 0 4 254 2 = 6", "0024");
        steep("12: bytes below", "7777", "sheet 0 4 -250 -3 = 9", "6300");
        steep("12: shorts: the lowest bits, with their sign", "7777", "sheet 1 4 32766 1 = 18", "9900");
        steep("12: shorts: 65536 is 0", "7777", "sheet 1 4 65534 2 = 6", "0024");
        steep("12: shorts do not wrap as bytes", "7777", "sheet 1 2 256 0 = 18", "9900");
        steep("12: ints do not wrap as shorts", "7777", "sheet 2 2 65536 0 = 18", "9900");
        steep("12: ints wrap", "7777", "sheet 2 4 2147483646 1 = 18", "9900");
        steep("12: ints wrap by their step", "7777", "sheet 2 4 5 1073741824 = 14", "5900");
        steep("12: put to 0 .. 9", "7777", "sheet 2 4 -1 5 = 22", "0499");
        steep("12: put to 0 .. 9, just", "777", "sheet 2 3 8 1 = 26", "899");
        steep("12: put to 0 .. 9, just below", "777", "sheet 2 3 1 -1 = 1", "100");
    }
}
