/** Promises 20 to 25: how far. */
public final class FarTest {
    public static void main(String[] args) {
        ahead();
        first();
        bears();
        hush();
        hushInTurn();
        which();
        could();
        questionsChangeNothing();
        Check.end();
    }

    private static void ahead() {
        SixToCarry x = Check.funeral("0909", "32,5;31,5;9,9", "");
        Check.due("nobody carries", x.ahead(1), -3);
        Check.due("nobody carries, asked first", x.ahead(13), -3);
        Check.take(x, 0, 1);
        Check.due("another n", x.ahead(13), -1);
        Check.due("another n below", x.ahead(-1), -1);
        Check.due("none", x, x.ahead(0), 0, "0 0");
        Check.due("one", x, x.ahead(1), 0, "1 2");
        Check.due("two: 69 are needed", x, x.ahead(2), 1, "2 8");
        // TIRED 4: each is 1 weaker: 61 for 60, then 61 - 69
        Check.due("three", x, x.ahead(3), 1, "3 10");
        Check.due("four", x, x.ahead(4), 2, "4 16");
        Check.due("the hill ends it", x, x.ahead(12), 2, "4 16");
        x.step();
        x.step();
        Check.due("on from there", x, x.ahead(1), 0, "3 10");
        x.leave(1);
        Check.due("with one that rests", x, x.ahead(1), 1, "3 9");
        x.step();
        x.step();
        Check.due("on the hill", x, x.ahead(12), 0, "4 10");
    }

    private static void first() {
        SixToCarry x = Check.funeral("0909", "32,5;31,5", "");
        Check.due("nobody carries", x.first(), -3);
        Check.take(x, 0, 1);
        Check.due("from the second", x.first(), 1);
        x.load(52);
        Check.due("from none", x.first(), -2);
        x.load(53);
        Check.due("from the last, being tired", x.first(), 3);
        x.load(55);
        Check.due("from the second again", x.first(), 1);
        x.load(64);
        Check.due("from the first", x.first(), 0);
        x.load(60);
        x.step();
        x.step();
        Check.due("from the last", x.first(), 3);
        x.step();
        x.step();
        Check.due("on the hill", x.first(), -2);
    }

    private static void bears() {
        SixToCarry x = Check.funeral("0909", "32,5;31,5", "");
        Check.due("nobody carries", x.bears(), -3);
        Check.take(x, 0, 1);
        // at CORNER 3 both are 3 TIRED: 61, less 9
        Check.due("least at the last corner", x.bears(), 52);
        x.load(52);
        Check.due("with it", x.first(), -2);
        x.load(53);
        Check.due("with more", x.first(), 3);
        Check.rule(x, "4");
        Check.due("with none", x.bears(), -2);
        Check.rule(x, "4+(s=32)");
        Check.due("9 less 9", x.bears(), 0);
        Check.rule(x, "5");
        Check.due("10 less 9", x.bears(), 1);
        Check.rule(x, "(s=32)*4+5*(c>0)");
        Check.due("4, or 14 less 9", x.bears(), 4);
        for (int k = 0; k < 4; k++) {
            x.step();
        }
        Check.due("on the hill", x.bears(), 999);
        SixToCarry y = Check.funeral("0", "1,1", "");
        Check.take(y, 0);
        Check.due("one weak one", y.bears(), 1);
    }

    private static void hush() {
        SixToCarry x = Check.funeral("000", "33,5;33,5", "2+1a;5-1a;4+1ab;3+1a;9+9b");
        Check.due("nobody carries", x.hush(), -3);
        Check.take(x, 0, 1);
        x.load(66);
        Check.due("nothing must be said", x, x.hush(), 0, "");
        x.load(68);
        Check.due("one must", x, x.hush(), 1, "0 0");
        x.load(69);
        Check.due("another one must", x, x.hush(), 1, "0 2");
        x.load(70);
        Check.due("one that is just enough", x, x.hush(), 1, "0 2");
        x.load(71);
        Check.due("two would, but they stagger ahead of the second", x.hush(), -2);
        Check.due("the row stays", Check.row(x), "0 2");
        x.load(66);
        x.say(2);
        x.load(67);
        Check.due("it is SPOKEN here", x.hush(), -2);
        x.undo();
        x.step();
        x.step();
        x.step();
        Check.due("on the hill", x, x.hush(), 0, "");
    }

    /** The way gets steeper, so that more can be said in time. */
    private static void hushInTurn() {
        SixToCarry x = Check.funeral("0369", "33,5;33,5", "2+1a;5-1a;4+1ab;3+1a;1+9a;4+0a");
        Check.take(x, 0, 1);
        // borne: 66, 63, 60, and 64 - 9 = 55
        Check.due("it bears", x.bears(), 55);
        x.load(57);
        Check.due("one", x, x.hush(), 1, "0 0");
        x.load(59);
        Check.due("one, as early as can be", x, x.hush(), 1, "0 2");
        x.load(60);
        Check.due("two", x, x.hush(), 2, "0 0 1 2");
        x.load(62);
        Check.due("two, the least row", x, x.hush(), 2, "0 2 1 3");
        x.load(63);
        Check.due("two others", x, x.hush(), 2, "0 2 1 5");
        x.load(64);
        Check.due("three", x, x.hush(), 3, "0 0 1 2 2 3");
        x.load(66);
        Check.due("the most", x, x.hush(), 3, "0 2 1 3 2 5");
        x.load(67);
        Check.due("three do not do", x.hush(), -2);
        x.load(62);
        x.say(4);
        x.load(62);
        Check.due("from the next corner on", x, x.hush(), 2, "1 2 2 3");
        x.step();
        x.say(5);
        x.load(57);
        Check.due("without those SAID", x, x.hush(), 1, "2 0");
        x.step();
        x.step();
        Check.due("at the last corner", x, x.hush(), 1, "3 0");
        x.load(61);
        Check.due("no corners for two", x.hush(), -2);
    }

    private static void which() {
        SixToCarry x = Check.funeral("009", "33,5;33,5", "2+1a;5-1a;4+1ab;9+9b;3-0d;7+3d");
        Check.due("nobody carries", x.which(), -3);
        Check.take(x, 0, 1);
        // borne: 66, 66, 66 - 9 = 57
        x.load(57);
        Check.due("with all nothing must be said", x, x.which(), 0, "0 0 0 0");
        x.load(60);
        Check.due("with some one must", x, x.which(), 0, "1 1 -2 1");
        x.load(63);
        Check.due("with some two must", x, x.which(), 1, "2 1 -2 1");
        x.seventh(3);
        x.load(64);
        Check.due("who walks behind now is all the same", x, x.which(), 1, "-2 1 -2 1");
        x.load(70);
        Check.due("with one alone", x, x.which(), 1, "-2 2 -2 -2");
        x.load(76);
        Check.due("with none", x.which(), -2);
        Check.due("THE SEVENTH stays", x.count(6), 3);
    }

    private static void could() {
        SixToCarry x = Check.funeral("11", "40,5", "20-3a;9+3a;7+1b;9+1ab;15+0a");
        Check.due("some", x, x.could(), 27, "4 45");
        x.say(4);
        Check.due("SPOKEN", x, x.could(), 0, "-1 45");
        Check.take(x, 0);
        x.step();
        Check.due("of like ones the first", x, x.could(), 11, "1 36");
        x.seventh(1);
        Check.due("by another one", x, x.could(), 12, "3 36");
        x.load(5);
        Check.due("0 at least, so like ones", x, x.could(), 12, "2 0");
        x.seventh(2);
        Check.due("by one who knows nothing", x, x.could(), 0, "-1 5");
        SixToCarry y = Check.funeral("11", "40,5", "20-3a;9-3a");
        Check.due("false ones alone", y, y.could(), 3, "1 69");
        Check.take(y, 0);
        y.step();
        y.step();
        Check.due("on the hill", y, y.could(), 0, "-1 60");
    }

    private static void questionsChangeNothing() {
        SixToCarry x = Check.funeral("0369", "33,5;33,5;20,9", "2+1a;5-1a;4+1ab;3+1a;1+9a;4+0a");
        Check.take(x, 0, 1);
        x.old(3, 7);
        x.claim(0, 1, 1);
        x.step();
        x.say(0);
        String seen = Check.seen(x);
        x.ahead(3);
        x.first();
        x.bears();
        x.hush();
        x.which();
        x.could();
        x.force();
        x.team(2);
        x.fewest();
        x.change();
        x.props();
        x.rest(0);
        x.slant();
        x.cover(3);
        x.lighter(0);
        x.secret(1);
        x.best();
        x.worlds();
        x.sure();
        x.ask();
        x.widow(2, 3);
        x.believe();
        x.slips(3);
        x.rests(7);
        Check.text(x, "s").law();
        x.years(7, 60);
        Check.due("nothing has changed", Check.seen(x), seen);
    }
}
