/** Promises 1 to 12: the way, bearers, sayings. */
public final class TextsTest {
    public static void main(String[] args) {
        newObject();
        sign();
        end();
        way();
        wayBegins();
        bearers();
        bearersFaults();
        sayings();
        sayingsFaults();
        rule();
        ruleFaults();
        bearer();
        saying();
        force();
        load();
        sheet();
        Check.end();
    }

    private static void newObject() {
        SixToCarry x = new SixToCarry();
        int[] due = {1, 0, 0, 0, 60, 0, 0, 0, 0, 0, 0, 0, 0, 0, 0, 0};
        for (int what = 0; what < due.length; what++) {
            Check.due("new: count(" + what + ")", x.count(what), due[what]);
        }
        Check.due("new: force()", x, x.force(), 0, "60 0");
        Check.due("new: again(0)", x.again(0), false);
    }

    private static void sign() {
        SixToCarry x = new SixToCarry();
        Check.due("sign(1234)", x.sign(0x31323334), 4);
        Check.due("sign(5678)", x.sign(0x35363738), 8);
        Check.due("way of both", x.way(), 8);
        x.force();
        Check.due("the highest byte came first", x.row(0), 61);
        x.sign(0xff000000);
        x.end(1);
        Check.due("a sign of 255", x.way(), -1);
        for (int k = 1; k <= 20; k++) {
            Check.due("sign " + k, x.sign(k), 4 * k);
        }
        Check.due("sign beyond 80", x.sign(0), -1);
        Check.due("signs then", x.count(14), 80);
        x.end(77);
        Check.due("sign at 77", x.sign(0), -1);
        x.end(76);
        Check.due("sign at 76", x.sign(0), 80);
    }

    private static void end() {
        SixToCarry x = new SixToCarry();
        Check.due("end(1) of none", x.end(1), false);
        Check.due("end(0) of none", x.end(0), true);
        x.sign(0x31313131);
        Check.due("end(5) of four", x.end(5), false);
        Check.due("end(-1)", x.end(-1), false);
        Check.due("nothing changed", x.count(14), 4);
        Check.due("end(4)", x.end(4), true);
        Check.due("end(2)", x.end(2), true);
        Check.due("then way()", x.way(), 2);
        Check.due("the text is read", x.count(14), 0);
    }

    private static void faultOf(String call, String text, int p) {
        SixToCarry x = new SixToCarry();
        Check.text(x, text);
        long got = call.equals("way") ? x.way() : call.equals("bearers") ? x.bearers()
                : call.equals("sayings") ? x.sayings() : x.rule();
        Check.due(call + " of '" + text + "'", got, -1 - p);
        Check.due(call + " of '" + text + "' empties the text", x.count(14), 0);
        Check.due(call + " of '" + text + "': corners, bearers, sayings", x.count(0) + x.count(1) + x.count(2), 1);
    }

    private static void way() {
        faultOf("way", "", 0);
        faultOf("way", "x", 0);
        faultOf("way", "/", 0);
        faultOf("way", ":", 0);
        faultOf("way", "12 ", 2);
        faultOf("way", "1234567890123", 12);
        faultOf("way", "123456789012x", 12);
        faultOf("way", "1234567890-12", 10);
        SixToCarry x = new SixToCarry();
        Check.due("way of 12", Check.text(x, "012345678901").way(), 12);
        Check.due("way of 1", Check.text(x, "9").way(), 1);
        Check.due("corners", x.count(0), 1);
        x.force();
        Check.due("steep", x.row(0), 69);
    }

    /** What way() begins anew, and what it leaves. */
    private static void wayBegins() {
        SixToCarry x = Check.funeral("11", "30,5", "10+3a");
        Check.take(x, 0);
        x.step();
        x.say(0);
        x.keep(0);
        Check.due("a refused way", Check.text(x, "1x").way(), -2);
        Check.due("leaves where they are", x.count(3), 1);
        Check.due("leaves what can be undone", x.count(12), 3);
        Check.due("leaves what is kept", x.again(0), true);
        x.leave(0);
        x.take(0);
        Check.due("way anew", Check.text(x, "123").way(), 3);
        Check.due("AT", x.count(3), 0);
        Check.due("SPOKEN", x.count(8), 0);
        Check.due("undone", x.count(12), 0);
        Check.due("undo()", x.undo(), -1);
        Check.due("again(0)", x.again(0), false);
        Check.due("LOAD stays", x.count(4), 50);
        Check.due("who carries stays", x.count(5), 1);
        Check.due("SAID stays", x.count(7), 1);
        Check.due("STAGGERS stay", x.count(9), 1);
        Check.due("TIRED stays", x.bearer(0, 2), 3);
    }

    private static void bearers() {
        SixToCarry x = new SixToCarry();
        Check.due("bearers of nothing", x.bearers(), 0);
        Check.due("two", Check.text(x, "40,9;1,1").bearers(), 2);
        Check.due("strength 0", x.bearer(0, 0), 40);
        Check.due("height 0", x.bearer(0, 1), 9);
        Check.due("strength 1", x.bearer(1, 0), 1);
        Check.due("height 1", x.bearer(1, 1), 1);
        Check.due("a zero ahead", Check.text(x, "07,3").bearers(), 1);
        Check.due("strength 2", x.bearer(2, 0), 7);
        Check.due("five more", Check.text(x, "9,9;9,9;9,9;9,9;9,9").bearers(), 5);
        Check.due("no room", Check.text(x, "9,9").bearers(), -1);
        Check.due("no room for an end either", Check.text(x, "x").bearers(), -1);
        Check.due("how many", x.count(1), 8);
        Check.take(x, 0);
        x.keep(1);
        Check.due("an empty text", Check.text(x, "").bearers(), 0);
        Check.due("forgets nothing", x.count(12), 1);
        Check.due("a refused one", Check.text(x, "1,1").bearers(), -1);
        Check.due("forgets nothing either", x.count(12), 1);
        Check.due("and what is kept stays", x.again(1), true);

        SixToCarry y = Check.funeral("1", "9,9;8,8;7,7", "");
        Check.take(y, 1);
        y.step();
        y.keep(0);
        Check.due("one more", Check.text(y, "6,6").bearers(), 1);
        Check.due("undo() then", y.undo(), -1);
        Check.due("again(0) then", y.again(0), false);
        Check.due("who carries", y.count(5), 2);
        Check.due("the new one is not tired", y.bearer(3, 2), 0);
        Check.due("the new one does not carry", y.bearer(3, 3), 0);
        Check.due("the old one is tired", y.bearer(1, 2), 3);
    }

    private static void bearersFaults() {
        String[] texts = {"x", "0", "00", "0,1", "41", "99,1", "4", "45,1", "5,", "5,0", "5,x", "5,55", "5,5;", "5,5,5",
            "5,5;;", "5,5;0,5", "5,5;41,5", "100,1", "5;5", ";5,5", ",5", "5,5;5", " 5,5", "5,05",
            "1,1;1,1;1,1;1,1;1,1;1,1;1,1;1,1;", "1,1;1,1;1,1;1,1;1,1;1,1;1,1;1,1;1,1",
            "40,9;40,9;40,9;40,9;40,9;40,9;40,9;40,9;40,9;40,9"};
        int[] places = {0, 0, 1, 0, 1, 1, 1, 1, 2, 2, 2, 3, 4, 3,
            4, 4, 5, 2, 1, 0, 0, 5, 0, 2,
            32, 32,
            40};
        for (int k = 0; k < texts.length; k++) {
            faultOf("bearers", texts[k], places[k]);
        }
        SixToCarry x = Check.funeral("1", "9,9;8,8;7,7;6,6;5,5;4,4", "");
        Check.due("the third LINE has no room", Check.text(x, "1,1;2,2;3,3").bearers(), -9);
        Check.due("none of them came", x.count(1), 6);
    }

    private static void sayings() {
        SixToCarry x = new SixToCarry();
        Check.due("sayings of nothing", x.sayings(), 0);
        Check.due("four", Check.text(x, "20+9abcd;1-0;05+5b;7-4ad").sayings(), 4);
        int[][] due = {{20, 1, 9, 15}, {1, 0, 0, 0}, {5, 1, 5, 2}, {7, 0, 4, 9}};
        for (int s = 0; s < 4; s++) {
            for (int what = 0; what < 4; what++) {
                Check.due("saying " + s + ", " + what, x.saying(s, what), due[s][what]);
            }
            Check.due("saying " + s + " SAID", x.saying(s, 4), 0);
        }
        Check.due("four more", Check.text(x, "1+1;1+1;1+1;1+1d").sayings(), 4);
        Check.due("no room", Check.text(x, "1+1").sayings(), -1);
        Check.due("how many", x.count(2), 8);
        SixToCarry y = Check.funeral("1", "9,9", "3+3a;4-4a");
        y.say(0);
        y.keep(0);
        Check.due("an empty text", Check.text(y, "").sayings(), 0);
        Check.due("a wrong text", Check.text(y, "5+5ba").sayings(), -5);
        Check.due("forget nothing", y.count(12), 1);
        Check.due("one more", Check.text(y, "9-9a").sayings(), 1);
        Check.due("undo() then", y.undo(), -1);
        Check.due("again(0) then", y.again(0), false);
        Check.due("SAID stays", y.count(7), 1);
        Check.due("the new one is false", y.saying(2, 1), 0);
    }

    private static void sayingsFaults() {
        String[] texts = {"x", "0", "00+1", "0+1", "21", "5", "5x", "5+", "5+x", "5+5;", "5+5ba", "5+5aa", "5+5e", "5+55",
            "5+5abcda", "5+5a;21+1", "5+5a5", "201+1", "+5", "5-5A", "5+5;;", "5+05",
            "1+1;1+1;1+1;1+1;1+1;1+1;1+1;1+1;", "1+1;1+1;1+1;1+1;1+1;1+1;1+1;1+1;1+1", "20+9abcd;20+9abcd;20+9abcd;20+9abcd;20+9abcd;20+9abcd;"
            + "20+9abcd;20+9abcd;20+9abc"};
        int[] places = {0, 0, 1, 0, 1, 1, 1, 2, 2, 4, 4, 4, 3, 3,
            7, 6, 4, 2, 0, 3, 4, 3,
            32, 32, 72};
        for (int k = 0; k < texts.length; k++) {
            faultOf("sayings", texts[k], places[k]);
        }
    }

    /** STRENGTH 30, HEIGHT 5, TIRED 7, beside one of HEIGHT 8, at CORNER 1, which is 4 STEEP. */
    private static void worth(String rule, int due) {
        SixToCarry x = Check.funeral("04", "30,5;1,8;9,9", "");
        x.load(999);
        for (int k = 0; k < 2; k++) {
            Check.take(x, 0);
            x.step();
            x.leave(0);
            Check.text(x, "04").way();
        }
        Check.take(x, 0, 1);
        x.load(0);
        x.step();
        Check.due("TIRED is as it should be", x.bearer(0, 2), 7);
        Check.rule(x, rule);
        Check.due("worth by '" + rule + "'", x.bearer(0, 4), due);
    }

    private static void rule() {
        worth("", 25);
        worth("s-t/3-(x-h)", 25);
        worth("s", 30);
        worth("t", 7);
        worth("h", 5);
        worth("x", 8);
        worth("n", 2);
        worth("c", 4);
        worth("i", 0);
        worth("007", 7);
        worth("999", 99);
        worth("0-5", 0);
        worth("50-10-5", 35);
        worth("50-(10-5)", 45);
        worth("90/3/2", 15);
        worth("7/2*2", 6);
        worth("50+(0-7)/2", 47);
        worth("50+-7/2", 47);
        worth("5/0+3", 3);
        worth("2+3*4", 14);
        worth("-2*-3", 6);
        worth("---5+9", 4);
        worth("--5", 5);
        worth("5--5", 10);
        worth("6*-(-3)", 18);
        worth("3<5", 1);
        worth("5<5", 0);
        worth("5>3", 1);
        worth("3>5", 0);
        worth("2+3=5", 1);
        worth("5=2+4", 0);
        worth("9*(s>t)+(h=x)", 9);
        worth("(1<2)<2", 1);
        worth("((((s))))", 30);
        worth("(s)+((t)+((h)+((c))))", 46);
        worth("999*999*999*99+7", 0);
        worth("999*999*999*9", 99);
        worth("512*512*512*16/-1<0", 1);
        SixToCarry x = Check.funeral("5", "30,5", "");
        Check.take(x, 0);
        Check.rule(x, "7");
        Check.due("force by 7", x.force(), 7);
        Check.due("a wrong rule", Check.text(x, "8+").rule(), -3);
        Check.due("changes nothing", x.force(), 7);
        Check.rule(x, "");
        Check.due("none again", x.force(), 30);
        Check.due("what can be undone stays", x.count(12), 1);
    }

    private static void ruleFaults() {
        String[] texts = {"z", "S", "s+", "s<h<h", "(s<h)<h<h", "s<(h<h<h)", "(s", "(((((s", "1000", "s s", "ss", "s5", "5s",
            "(s)(s)", "()", "s)", "s+*t", "*s", "s/", "-", "s<", "<s", "s<>t", "s==t", "(s)5", "55(", "s+1000",
            "((((s)))", "((((s)))))", "(s+(t+(h+(x+(n)))))",
            "s+s+s+s+s+s+s+s+s+s+s+s+s+s+s+s+s+s+s+s+s", "s+s+s+s+s+s+s+s+s+s+s+s+s+s+s+s+s+s+s+s+",
            "s+s+s+s+s+s+s+s+s+s+s+s+s+s+s+s+s+s+s+s+(x", "s+s+s+s+s+s+s+s+s+s+s+s+s+s+s+s+s+s+s+1234",
            "s+s+s+s+s+s+s+s+s+s+s+s+s+s+s+s+s+s+s+s?x"};
        int[] places = {0, 0, 2, 3, 7, 6, 2, 4, 3, 1, 1, 1, 1,
            3, 1, 1, 2, 0, 2, 1, 2, 0, 2, 2, 3, 2, 5,
            8, 9, 12,
            40, 40,
            40, 40,
            39};
        for (int k = 0; k < texts.length; k++) {
            faultOf("rule", texts[k], places[k]);
        }
        SixToCarry x = Check.funeral("5", "30,5", "");
        Check.take(x, 0);
        Check.rule(x, "s+s+s+s+s+s+s+s+s+s+s+s+s+s+s+s+s+s+s+11");
        Check.due("a rule of 40 signs", x.force(), 99);
        Check.rule(x, "----------------------------------------".substring(1) + "s");
        Check.due("39 signs ahead of a thing", x.force(), 0);
        Check.rule(x, "----------------------------------------".substring(2) + "s");
        Check.due("38 signs ahead of a thing", x.force(), 30);
    }

    private static void bearer() {
        SixToCarry x = Check.funeral("3", "30,5;20,9", "");
        Check.take(x, 0);
        int[] due = {20, 9, 0, 0, 20};
        for (int what = 0; what < 5; what++) {
            Check.due("bearer(1, " + what + ")", x.bearer(1, what), due[what]);
        }
        Check.due("carrying", x.bearer(0, 3), 1);
        Check.due("worth among those that carry", x.bearer(0, 4), 30);
        Check.take(x, 1);
        Check.due("worth beside a taller one", x.bearer(0, 4), 26);
        x.step();
        Check.due("tired", x.bearer(0, 2), 3);
        Check.rule(x, "10*c+i+n");
        Check.due("on the hill", x.bearer(0, 4), 2);
        Check.due("the next one on the hill", x.bearer(1, 4), 3);
        int[][] wrong = {{2, 0}, {-1, 0}, {0, 5}, {0, -1}, {Integer.MAX_VALUE, 0}, {0, Integer.MIN_VALUE}};
        for (int[] w : wrong) {
            Check.throwsNoSuch("bearer(" + w[0] + ", " + w[1] + ")", () -> x.bearer(w[0], w[1]));
        }
        Check.throwsNoSuch("bearer of none", () -> new SixToCarry().bearer(0, 0));
    }

    private static void saying() {
        SixToCarry x = Check.funeral("33", "30,5", "9+4bd;8-7a");
        int[] due = {9, 1, 4, 10, 0, 0};
        for (int what = 0; what < 6; what++) {
            Check.due("saying(0, " + what + ")", x.saying(0, what), due[what]);
        }
        Check.due("known to the first", x.saying(1, 5), 1);
        x.seventh(3);
        Check.due("known to the fourth", x.saying(0, 5), 1);
        Check.due("not known to him", x.saying(1, 5), 0);
        x.say(0);
        Check.due("SAID", x.saying(0, 4), 1);
        Check.due("the other one", x.saying(1, 4), 0);
        int[][] wrong = {{2, 0}, {-1, 0}, {0, 6}, {0, -1}, {Integer.MIN_VALUE, 0}, {0, Integer.MAX_VALUE}};
        for (int[] w : wrong) {
            Check.throwsNoSuch("saying(" + w[0] + ", " + w[1] + ")", () -> x.saying(w[0], w[1]));
        }
        Check.throwsNoSuch("saying of none", () -> new SixToCarry().saying(0, 0));
    }

    private static void force() {
        SixToCarry x = Check.funeral("70", "30,5;20,9;40,1", "");
        Check.due("force of none", x, x.force(), 0, "67 0");
        Check.take(x, 0);
        Check.due("force of one", x, x.force(), 30, "67 1");
        Check.take(x, 1, 2);
        Check.due("force of three", x, x.force(), 26 + 20 + 32, "67 3");
        x.load(5);
        Check.due("another load", x, x.force(), 78, "12 3");
        x.step();
        Check.due("another corner", x, x.force(), 78, "5 3");
        x.step();
        x.step();
        Check.due("on the hill", x, x.force(), 78, "5 3");
        Check.rule(x, "99");
        Check.due("99 at most each", x, x.force(), 297, "5 3");
    }

    private static void load() {
        SixToCarry x = new SixToCarry();
        Check.due("load(0)", x.load(0), 60);
        Check.due("load(999)", x.load(999), 0);
        Check.due("load(1000)", x.load(1000), -1);
        Check.due("load(-1)", x.load(-1), -1);
        Check.due("LOAD", x.count(4), 999);
    }

    private static void steep(SixToCarry x, String due) {
        StringBuilder all = new StringBuilder();
        x.load(0);
        x.keep(0);
        for (int k = 0; k < x.count(0); k++) {
            x.force();
            all.append(x.row(0));
            x.step();
        }
        x.again(0);
        Check.due("STEEP", all.toString(), due);
    }

    private static void sheet() {
        SixToCarry x = Check.funeral("1234", "30,5", "");
        Check.take(x, 0);
        Check.due("ints", x.sheet(2, 3, 4, 2), 18);
        steep(x, "4680");
        Check.due("ints put to 0 .. 9", x.sheet(2, 4, -3, 7), 4 + 9 + 9);
        steep(x, "0499");
        Check.due("bytes by their lowest bits", x.sheet(0, 3, 253, 2), 1);
        steep(x, "0010");
        Check.due("bytes again", x.sheet(0, 4, 259, 256), 12);
        steep(x, "3333");
        Check.due("shorts are more", x.sheet(1, 2, 259, 256), 18);
        steep(x, "9900");
        Check.due("shorts by their lowest bits", x.sheet(1, 3, 65534, 3), 5);
        steep(x, "0140");
        Check.due("ints of as much", x.sheet(2, 3, 65534, 3), 27);
        Check.due("ints that wrap", x.sheet(2, 3, Integer.MAX_VALUE, 1), 9);
        steep(x, "9000");
        Check.due("n of 0", x.sheet(1, 0, 5, 5), 0);
        steep(x, "0000");
        Check.due("more entries than corners", x.sheet(2, 12, 1, 0), 4);
        steep(x, "1111");
        Check.due("n below 0", x.sheet(0, -1, 5, 5), -2);
        Check.due("n below 0, shorts", x.sheet(1, Integer.MIN_VALUE, 5, 5), -2);
        Check.due("n above 12", x.sheet(2, 13, 5, 5), -1);
        Check.due("another kind", x.sheet(4, 1, 5, 5), -1);
        Check.due("another kind, n below 0", x.sheet(-1, -1, 5, 5), -1);
        Check.due("missing, n above 12", x.sheet(3, 13, 5, 5), -1);
        steep(x, "1111");
        Check.due("missing", x.sheet(3, 2, 5, 5), -3);
        steep(x, "0000");
        x.sheet(2, 4, 7, 0);
        Check.due("missing, n below 0", x.sheet(3, -1, 5, 5), -3);
        steep(x, "0000");
        Check.take(x);
        x.leave(0);
        x.sheet(2, 4, 7, 0);
        Check.due("undo goes on", x.undo(), 0);
        Check.text(x, "11").way();
        steep(x, "11");
        Check.text(x, "1").way();
        x.sheet(2, 2, 5, 0);
        Check.text(x, "111").way();
        steep(x, "111");
    }
}
