/** Promises 45 to 52: slips, bids, rules, walks, and what is kept. */
public final class ChanceTest {
    public static void main(String[] args) {
        slips();
        rests();
        law();
        lawFaults();
        years();
        yearsRefuse();
        keep();
        again();
        count();
        row();
        rowOfRefused();
        Check.end();
    }

    private static void slips() {
        SixToCarry x = Check.funeral("0", "30,5;31,5;9,9", "");
        Check.due("another p, asked first", x.slips(11), -1);
        Check.due("another p below", x.slips(-1), -1);
        Check.due("nobody carries", x.slips(5), -3);
        Check.take(x, 0, 1);
        Check.due("both are needed", x, x.slips(1), 0, "81 100");
        Check.due("both are needed, half", x, x.slips(5), 0, "1 4");
        Check.due("nobody slips", x, x.slips(0), 0, "1 1");
        Check.due("all slip", x, x.slips(10), 0, "0 1");
        x.load(31);
        Check.due("one is needed", x, x.slips(4), 0, "3 5");
        x.load(30);
        Check.due("either is needed", x, x.slips(3), 0, "91 100");
        x.load(62);
        Check.due("they stagger as they are", x, x.slips(0), 0, "0 1");
        x.load(0);
        Check.due("nothing is needed", x, x.slips(10), 0, "1 1");
        Check.rule(x, "s/n");
        x.load(31);
        // both: 15 + 15; the second alone: 31
        Check.due("without the other it is more", x, x.slips(2), 0, "4 25");
        SixToCarry y = Check.funeral("0", "10,1;10,1;10,1;10,1;10,1;10,1;1,1", "");
        Check.take(y, 0, 1, 2, 3, 4, 5);
        Check.due("all six", y, y.slips(1), 0, "531441 1000000");
        y.load(50);
        // .9^6 + 6 * .9^5 * .1
        Check.due("five of six", y, y.slips(1), 0, "177147 200000");
        Check.due("THE STEEP counts", y.sheet(2, 1, 1, 0), 1);
        Check.due("six again", y, y.slips(1), 0, "531441 1000000");
    }

    private static void rests() {
        SixToCarry x = new SixToCarry();
        Check.due("another v", x.rests(21), -1);
        Check.due("another v below", x.rests(-1), -1);
        Check.due("nothing to have", x, x.rests(0), 100, "0 0");
        Check.due("one coin", x, x.rests(1), 28, "0 0");
        Check.due("enough", x, x.rests(20), 7, "0 0");
        Check.due("just enough", x, x.rests(9), 7, "0 0");
    }

    private static void law() {
        SixToCarry x = Check.funeral("0909", "32,5;31,5", "");
        Check.take(x, 0, 1);
        Check.due("the same", x, Check.text(x, "s").law(), 0, "1 1");
        Check.due("from none", x, Check.text(x, "99").law(), 11, "12 1");
        Check.due("from the first", x, Check.text(x, "5").law(), -1, "0 1");
        Check.due("from the last", x, Check.text(x, "50*(t<3)").law(), 2, "3 1");
        Check.due("the text is read", x.count(14), 0);
        Check.due("THE RULE stays", x.force(), 63);
        Check.rule(x, "99");
        Check.due("none, against from none", x, Check.text(x, "").law(), -11, "1 12");
        Check.due("from none, both", x, Check.text(x, "98").law(), 0, "12 12");
        Check.due("THE RULE stays again", x.force(), 198);
        x.step();
        x.step();
        x.step();
        x.step();
        Check.due("on the hill", x, Check.text(x, "5").law(), 0, "12 12");
    }

    private static void lawFaults() {
        SixToCarry x = Check.funeral("0909", "32,5;31,5", "");
        Check.due("nobody carries", Check.text(x, "s").law(), -20000);
        Check.due("nobody carries, none", x.law(), -20000);
        Check.due("the text is asked first", Check.text(x, "s+").law(), -10002);
        Check.due("the text is read", x.count(14), 0);
        Check.take(x, 0);
        Check.due("the first sign", Check.text(x, "z").law(), -10000);
        Check.due("41 signs", Check.text(x, "s+s+s+s+s+s+s+s+s+s+s+s+s+s+s+s+s+s+s+s+s").law(), -10040);
        Check.due("THE RULE stays", x.force(), 32);
        Check.due("no row", x.count(13) - 2, 0);
    }

    /** The walk of years() by the calls of the face, on an object of its own. */
    private static void years() {
        for (int seed = -30; seed < 30; seed++) {
            SixToCarry x = drawnOne();
            SixToCarry y = drawnOne();
            int n = 2 * seed + 61;
            int r = seed * 77777;
            for (int k = 0; k < n && n <= 60; k++) {
                r = r * 1103515245 + 12345;
                int what = (r >>> 16) % 4;
                if (what == 0) {
                    y.step();
                } else if (what == 1) {
                    r = r * 1103515245 + 12345;
                    int bearer = (r >>> 16) % 7;
                    if (y.bearer(bearer, 3) == 1) {
                        y.leave(bearer);
                    } else {
                        y.take(bearer);
                    }
                } else if (what == 2) {
                    r = r * 1103515245 + 12345;
                    y.say((r >>> 16) % 5);
                } else {
                    y.seventh((y.count(6) + 1) % 4);
                }
            }
            String seen = Check.seen(x);
            if (n <= 60) {
                Check.due("years(" + seed * 77777 + ", " + n + ")", x, x.years(seed * 77777, n), y.count(9) - 1,
                        y.count(3) + " " + y.count(4));
            } else {
                Check.due("years, too many", x.years(seed, n), -1);
            }
            Check.due("nothing has changed", Check.seen(x), seen);
        }
    }

    private static SixToCarry drawnOne() {
        SixToCarry x = Check.funeral("0123456789", "30,5;20,6;25,7;9,1;33,2;40,4;12,5", "9+1a;20-1bc;8+8d;7-1abcd;3+3");
        x.take(5);
        x.step();
        return x;
    }

    private static void yearsRefuse() {
        SixToCarry x = new SixToCarry();
        Check.due("n of 0", x.years(1, 0), -1);
        Check.due("n of 61", x.years(1, 61), -1);
        Check.due("n below", x.years(1, -1), -1);
        for (int seed = 0; seed < 20; seed++) {
            Check.due("without any", x, x.years(seed, 60), 0, "0 60");
        }
        // without BEARERS a 1 draws no second time
        SixToCarry y = Check.funeral("0", "", "9+1abcd");
        int r = 5;
        int due = 60;
        for (int n = 1; n <= 60; n++) {
            r = r * 1103515245 + 12345;
            if ((r >>> 16) % 4 == 2) {
                r = r * 1103515245 + 12345;
                due = 51;
            }
            Check.due("without bearers, " + n, y, y.years(5, n), 0, "0 " + due);
        }
    }

    private static void keep() {
        SixToCarry x = Check.funeral("0123", "30,5;20,6", "9+1a;20-1a");
        Check.due("again without", x.again(0), false);
        Check.due("keep(2)", x.keep(2), false);
        Check.due("keep(-1)", x.keep(-1), false);
        Check.take(x, 0);
        x.say(0);
        x.step();
        x.say(1);
        x.seventh(2);
        String seen = Check.seen(x);
        Check.due("keep(1)", x.keep(1), true);
        Check.due("changes nothing", Check.seen(x), seen);
        Check.take(x, 1);
        x.step();
        x.keep(0);
        x.step();
        x.seventh(1);
        Check.due("again(1)", x.again(1), true);
        Check.due("what it was, less what can be undone", Check.seen(x), seen.replace(" 5 ; ", " 0 ; "));
        Check.due("undo()", x.undo(), -1);
        x.step();
        Check.due("again(1) once more", x.again(1), true);
        Check.due("AT", x.count(3), 1);
        Check.due("SPOKEN", x.count(8), 1);
        Check.due("again(0)", x.again(0), true);
        Check.due("AT of the other", x.count(3), 2);
        Check.due("who carries", x.count(5), 3);
        Check.due("STAGGERS", x.count(9), 2);
        x.step();
        x.keep(0);
        x.again(0);
        Check.due("kept anew", x.count(3), 3);
    }

    private static void again() {
        SixToCarry x = Check.funeral("0123", "30,5;20,6", "9+1a;20-1a");
        x.keep(0);
        Check.due("again(1), not kept", x.again(1), false);
        Check.due("again(2)", x.again(2), false);
        Check.due("again(-1)", x.again(-1), false);
        x.take(0);
        Check.due("refused ones forget nothing", x.count(12), 1);
        x.load(7);
        x.sheet(2, 4, 9, 0);
        Check.rule(x, "5");
        x.old(1, 1);
        x.claim(0, 0, 1);
        Check.due("behind all these", x.again(0), true);
        Check.due("LOAD is as it was", x.count(4), 60);
        Check.due("old walks stay", x.count(10), 1);
        Check.due("claims stay", x.count(11), 1);
        x.force();
        Check.due("STEEP stays", x.row(0), 69);
        Check.due("a wrong text", Check.text(x, "x").bearers() + Check.text(x, "x").sayings() + Check.text(x, "x").way(), -3);
        Check.due("keeps it", x.again(0), true);
        Check.text(x, "1,1").bearers();
        Check.due("BEARERS came", x.again(0), false);
        x.keep(0);
        Check.due("kept anew", x.again(0), true);
        Check.text(x, "1+1").sayings();
        Check.due("SAYINGS came", x.again(0), false);
        x.keep(0);
        x.keep(1);
        Check.text(x, "0").way();
        Check.due("THE WAY came", x.again(0), false);
        Check.due("THE WAY came, the other", x.again(1), false);
    }

    private static void count() {
        SixToCarry x = Check.funeral("123", "30,5;20,6;9,9;9,9", "9+1b;20-1b;1+1;1+1;1+1");
        x.take(1);
        x.take(3);
        x.seventh(1);
        x.say(1);
        x.step();
        x.say(0);
        x.old(3, 3);
        x.old(3, 3);
        x.claim(1, 1, 1);
        x.sign(1);
        x.which();
        int[] due = {3, 4, 5, 1, 71, 10, 1, 3, 1, 1, 2, 1, 6, 2, 4, 2};
        for (int what = 0; what < due.length; what++) {
            Check.due("count(" + what + ")", x.count(what), due[what]);
        }
        Check.due("count(16)", x.count(16), -1);
        Check.due("count(-1)", x.count(-1), -1);
        Check.due("count of the lowest", x.count(Integer.MIN_VALUE), -1);
    }

    private static void row() {
        SixToCarry x = Check.funeral("0", "30,5;30,5", "");
        Check.throwsNoSuch("row(0) of none", () -> x.row(0));
        x.force();
        Check.due("row(0)", x.row(0), 60);
        Check.due("row(1)", x.row(1), 0);
        Check.throwsNoSuch("row(2)", () -> x.row(2));
        Check.throwsNoSuch("row(-1)", () -> x.row(-1));
        Check.throwsNoSuch("row of the greatest", () -> x.row(Integer.MAX_VALUE));
        x.take(0);
        x.take(1);
        x.load(60);
        Check.due("calls without a row leave it", Check.row(x), "60 0");
        x.hush();
        Check.due("an empty row", x.count(13), 0);
        Check.throwsNoSuch("row(0) of an empty row", () -> x.row(0));
    }

    /** Calls that answer below 0 tell no ROW: the one told last stays. */
    private static void rowOfRefused() {
        SixToCarry x = Check.funeral("9", "30,5", "9+1");
        x.force();
        String told = Check.row(x);
        x.step();
        x.ahead(1);
        x.first();
        x.hush();
        x.which();
        x.team(2);
        x.team(9);
        x.fewest();
        x.change();
        x.rest(9);
        x.slant();
        x.cover(1);
        x.lighter(9);
        x.secret(9);
        x.widow(1, 13);
        x.slips(11);
        x.slips(1);
        x.rests(99);
        Check.text(x, "s").law();
        Check.text(x, "x").walk();
        x.years(1, 0);
        x.old(1, 1);
        x.old(1, 9);
        x.ask();
        Check.due("the ROW stays", Check.row(x), told);
        Check.take(x, 0);
        Check.due("with none", x.which(), -2);
        Check.due("three do not do", x.hush(), -2);
        Check.due("the ROW stays again", Check.row(x), told);
    }
}
