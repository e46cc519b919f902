/** Promises 13 to 19: the walk. */
public final class WalkTest {
    public static void main(String[] args) {
        step();
        tired();
        take();
        leave();
        seventh();
        say();
        walk();
        walkFaults();
        walkStops();
        undo();
        undoTwelve();
        Check.end();
    }

    private static void step() {
        SixToCarry x = Check.funeral("05", "30,5;35,5", "");
        Check.due("nobody carries", x.step(), -3);
        Check.due("no row", x.count(13), 0);
        Check.take(x, 0, 1);
        Check.due("force 65, 60 is needed", x, x.step(), 0, "1 0");
        Check.due("force 65, 65 is needed", x, x.step(), 0, "2 0");
        Check.due("on the hill", x.step(), -2);
        Check.due("the row stays", Check.row(x), "2 0");
        x.leave(0);
        x.leave(1);
        Check.due("on the hill, and nobody carries", x.step(), -2);
        SixToCarry y = Check.funeral("06", "30,5;35,5", "9+9a");
        Check.take(y, 0, 1);
        y.step();
        y.say(0);
        y.load(60);
        Check.due("force 65, 66 is needed", y, y.step(), 1, "2 1");
        Check.due("STAGGERS", y.count(9), 1);
        Check.due("nothing is SPOKEN there", y.count(8), 0);
        Check.due("what can be undone", y.count(12), 5);
    }

    private static void tired() {
        SixToCarry x = Check.funeral("000000000000", "40,5;40,5;40,5", "");
        x.load(80);
        Check.take(x, 0, 1);
        x.step();
        Check.due("1 more", x.bearer(0, 2), 1);
        Check.due("still 0", x.bearer(2, 2), 0);
        x.load(81);
        x.step();
        Check.due("3 more", x.bearer(0, 2), 4);
        x.leave(0);
        x.take(2);
        x.step();
        Check.due("2 less", x.bearer(0, 2), 2);
        x.step();
        Check.due("2 less again", x.bearer(0, 2), 0);
        x.step();
        Check.due("0 at least", x.bearer(0, 2), 0);
        x.load(999);
        for (int way = 0; way < 3; way++) {
            Check.text(x, "000000000000").way();
            for (int k = 0; k < 12; k++) {
                x.step();
            }
        }
        Check.due("99 at most", x.bearer(1, 2), 99);
        Check.due("STAGGERS in all", x.count(9), 40);
    }

    private static void take() {
        SixToCarry x = Check.funeral("1", "1,1;2,2;3,3;4,4;5,5;6,6;7,7", "");
        Check.due("none such", x.take(7), -1);
        Check.due("none such below", x.take(-1), -1);
        Check.due("none such far", x.take(32), -1);
        for (int b = 0; b < 6; b++) {
            Check.due("take(" + b + ")", x.take(b), b + 1);
        }
        Check.due("a seventh one", x.take(6), -3);
        Check.due("one of the six", x.take(3), -2);
        Check.due("who carries", x.count(5), 63);
        Check.due("what can be undone", x.count(12), 6);
    }

    private static void leave() {
        SixToCarry x = Check.funeral("1", "1,1;2,2;3,3", "");
        Check.take(x, 0, 2);
        Check.due("none such", x.leave(3), -1);
        Check.due("none such below", x.leave(-1), -1);
        Check.due("it does not carry", x.leave(1), -2);
        Check.due("leave(0)", x.leave(0), 1);
        Check.due("leave(2)", x.leave(2), 0);
        Check.due("again", x.leave(2), -2);
        Check.due("who carries", x.count(5), 0);
        Check.due("what can be undone", x.count(12), 4);
    }

    private static void seventh() {
        SixToCarry x = new SixToCarry();
        Check.due("the same", x.seventh(0), -2);
        Check.due("another", x.seventh(3), 0);
        Check.due("another again", x.seventh(1), 3);
        Check.due("others", x.seventh(4), -1);
        Check.due("others below", x.seventh(-1), -1);
        Check.due("THE SEVENTH", x.count(6), 1);
        Check.due("what can be undone", x.count(12), 2);
    }

    private static void say() {
        SixToCarry x = Check.funeral("111", "40,5", "20+3a;20-3a;7+1b;9-1a");
        Check.take(x, 0);
        Check.due("none such", x.say(4), -1);
        Check.due("none such below", x.say(-1), -1);
        Check.due("he does not know it", x.say(2), -3);
        Check.due("a true one", x.say(0), 40);
        Check.due("SPOKEN", x.count(8), 1);
        Check.due("SAID", x.count(7), 1);
        Check.due("it was SAID", x.say(0), -2);
        Check.due("not known, asked ahead of SPOKEN", x.say(2), -3);
        Check.due("it is SPOKEN here", x.say(1), -4);
        x.step();
        Check.due("a false one", x.say(1), 60);
        x.step();
        x.load(995);
        Check.due("999 at most", x.say(3), 999);
        x.seventh(1);
        Check.due("SPOKEN by another one", x.say(2), -4);
        x.step();
        Check.due("on the hill", x.say(2), -5);
        Check.due("it was SAID, on the hill", x.say(0), -2);
        x.seventh(2);
        Check.due("not known, on the hill", x.say(2), -3);
        Check.due("SAID in all", x.count(15), 3);
        SixToCarry y = Check.funeral("1", "40,5", "20+3a");
        y.load(15);
        Check.due("0 at least", y.say(0), 0);
    }

    private static void walk() {
        SixToCarry x = Check.funeral("0123", "30,5;31,5;9,9", "10+3a;8+2b");
        Check.due("a walk", x, Check.text(x, "t0t1>s0>vb>s1l1>").walk(), 10, "0 1");
        Check.due("AT", x.count(3), 4);
        Check.due("LOAD", x.count(4), 42);
        Check.due("who carries", x.count(5), 1);
        Check.due("THE SEVENTH", x.count(6), 1);
        Check.due("SAID", x.count(7), 3);
        Check.due("as one", x.count(12), 1);
        Check.due("the text is read", x.count(14), 0);
        Check.due("undone", x.undo(), 0);
        Check.due("all of it: AT", x.count(3), 0);
        Check.due("all of it: LOAD", x.count(4), 60);
        Check.due("all of it: STAGGERS", x.count(9), 0);
        Check.due("an empty one", x, Check.text(x, "").walk(), 0, "0 0");
        Check.due("is nothing to undo", x.count(12), 0);
        Check.due("60 signs", Check.text(x, "t0l0t0l0t0l0t0l0t0l0t0l0t0l0t0l0t0l0t0l0t0l0t0l0t0l0t0l0t0l0").walk(), 30);
    }

    private static void walkFaults() {
        String[] texts = {"x", "t", "tx", "l", "lx", "v", "ve", "vA", "v0", "s", "sa", ">;", ">> ", "t0t", "t00", "T0",
            ">>>>>>>>>>>>>>>>>>>>>>>>>>>>>>>>>>>>>>>>>>>>>>>>>>>>>>>>>>>>>",
            ">>>>>>>>>>>>>>>>>>>>>>>>>>>>>>>>>>>>>>>>>>>>>>>>>>>>>>>>>>>t0",
            ">>>>>>>>>>>>>>>>>>>>>>>>>>>>>>>>>>>>>>>>>>>>>>>>>>>>>>>>>>>xt0"};
        int[] places = {0, 1, 1, 1, 1, 1, 1, 1, 1, 1, 1, 1, 2, 3, 2, 0, 60, 60, 59};
        for (int k = 0; k < texts.length; k++) {
            SixToCarry x = Check.funeral("0123", "30,5", "10+3a");
            Check.take(x, 0);
            x.step();
            Check.due("walk of '" + texts[k] + "'", Check.text(x, texts[k]).walk(), -1 - places[k]);
            Check.due("nothing is done: AT", x.count(3), 1);
            Check.due("nothing is done: what can be undone", x.count(12), 2);
            Check.due("the row stays", Check.row(x), "1 1");
            Check.due("the text is read", x.count(14), 0);
        }
    }

    private static void walkStops() {
        SixToCarry x = Check.funeral("00", "30,5;31,5", "10+3a;9+9b");
        Check.due("nobody carries", x, Check.text(x, ">t0").walk(), 0, "1 0");
        Check.due("nothing is kept of it", x.count(12), 0);
        Check.due("none such", x, Check.text(x, "t9").walk(), 0, "1 0");
        Check.due("not known", x, Check.text(x, "t0s1").walk(), 1, "1 0");
        Check.due("the first was done", x.count(5), 1);
        Check.due("the same one", x, Check.text(x, "va>").walk(), 0, "1 0");
        Check.due("beyond the hill", x, Check.text(x, ">>>l0").walk(), 2, "1 2");
        Check.due("who carries", x.count(5), 1);
        Check.due("what can be undone", x.count(12), 2);
        SixToCarry y = Check.funeral("00", "30,5;31,5", "");
        y.load(70);
        Check.due("STAGGERS by these", y, Check.text(y, "t0>").walk(), 2, "0 1");
        Check.due("STAGGERS by these alone", y, Check.text(y, "t1>").walk(), 2, "0 1");
        Check.due("STAGGERS in all", y.count(9), 2);
    }

    private static void undo() {
        SixToCarry x = Check.funeral("0123", "30,5;31,5;9,9", "10+3a;8+2b");
        Check.due("nothing to undo", x.undo(), -1);
        String[] seen = new String[8];
        for (int k = 0; k < 7; k++) {
            seen[k] = Check.seen(x);
            int answer = k == 0 ? x.take(0) : k == 1 ? x.take(1) : k == 2 ? x.say(0) : k == 3 ? x.step()
                    : k == 4 ? x.seventh(1) : k == 5 ? x.leave(1) : Check.text(x, "s1>>").walk();
            Check.due("act " + k + " can be done", answer >= 0, true);
        }
        x.take(0);
        x.say(0);
        x.seventh(9);
        Check.due("such as could not be done are not kept", x.count(12), 7);
        x.load(500);
        for (int k = 6; k >= 0; k--) {
            Check.due("undo()", x.undo(), k);
            Check.due("as ahead of act " + k, Check.seen(x), seen[k]);
        }
        Check.due("nothing more to undo", x.undo(), -1);
    }

    private static void undoTwelve() {
        SixToCarry x = Check.funeral("0", "30,5", "");
        for (int k = 0; k < 8; k++) {
            x.take(0);
            x.leave(0);
        }
        Check.due("twelve are kept", x.count(12), 12);
        for (int k = 11; k >= 0; k--) {
            Check.due("undo()", x.undo(), k);
            Check.due("who carries", x.count(5), k % 2 == 0 ? 0 : 1);
        }
        Check.due("no more", x.undo(), -1);
        x.take(0);
        Check.due("one anew", x.undo(), 0);
        SixToCarry y = Check.funeral("0", "30,5", "");
        for (int k = 0; k < 13; k++) {
            y.seventh(k % 3 + 1);
        }
        for (int k = 0; k < 12; k++) {
            y.undo();
        }
        Check.due("the state ahead of the twelfth last", y.count(6), 1);
    }
}
