/** Promises 32 to 44: who knows, worlds, the widow, claims. */
public final class KnowTest {
    public static void main(String[] args) {
        cover();
        lighter();
        secret();
        best();
        old();
        worlds();
        ask();
        widow();
        widowRefuses();
        claim();
        believe();
        Check.end();
    }

    private static void cover() {
        SixToCarry x = Check.funeral("0", "", "1+1ab;2+2bc;3-3cd;4+4d;5+5");
        Check.due("none", x, x.cover(0), 0, "0");
        Check.due("one, of like ones the first", x, x.cover(1), 1, "1");
        Check.due("one who knows two", x, x.cover(3), 1, "2");
        Check.due("two", x, x.cover(7), 2, "5");
        Check.due("two again", x, x.cover(15), 2, "10");
        Check.due("one false", x, x.cover(4), 1, "4");
        Check.due("nobody knows one", x.cover(17), -2);
        Check.due("the row stays", Check.row(x), "4");
        Check.due("none such", x.cover(32), -1);
        Check.due("none such with others", x.cover(33), -1);
        Check.due("below 0", x.cover(-1), -1);
        Check.due("the lowest", x.cover(Integer.MIN_VALUE), -1);
        SixToCarry y = Check.funeral("0", "", "1+1a;1+1b;1+1c;1+1d;1+1;1+1;1+1;1+1ad");
        Check.due("four", y, y.cover(15), 4, "15");
        Check.due("three", y, y.cover(14 | 128), 3, "14");
    }

    private static void lighter() {
        SixToCarry x = Check.funeral("00", "9,9", "1+1ab;2-2b;4+4b;8+8bc");
        Check.due("first", x, x.lighter(0), 1, "1");
        Check.due("second", x, x.lighter(1), 13, "13");
        Check.due("third", x, x.lighter(2), 8, "8");
        Check.due("fourth", x, x.lighter(3), 0, "0");
        Check.due("none such", x.lighter(4), -1);
        Check.due("none such below", x.lighter(-1), -1);
        x.seventh(1);
        x.say(2);
        Check.due("without those SAID", x, x.lighter(1), 9, "9");
    }

    private static void secret() {
        SixToCarry x = Check.funeral("00", "9,9", "1+1ab;2-2b;4+4;8+8abcd;16+1abd;3+3");
        Check.due("known to nobody", x, x.secret(0), 36, "2 7");
        Check.due("known to one", x, x.secret(1), 2, "1 2");
        Check.due("known to two", x, x.secret(2), 1, "1 1");
        Check.due("known to three", x, x.secret(3), 16, "1 16");
        Check.due("known to all", x, x.secret(4), 8, "1 8");
        Check.due("another k", x.secret(5), -1);
        Check.due("another k below", x.secret(-1), -1);
        x.say(0);
        Check.due("SAID ones too", x, x.secret(2), 1, "1 1");
        SixToCarry y = new SixToCarry();
        Check.due("without sayings", y, y.secret(0), 0, "0 0");
    }

    private static void best() {
        SixToCarry x = new SixToCarry();
        Check.due("without sayings", x, x.best(), 0, "0 0");
        x = Check.funeral("00", "9,9", "5+1ab;2-2a;5+4c;7-1c;7-1c;3+1d");
        Check.due("as much, with fewer false ones", x, x.best(), 1, "5 0");
        x.seventh(1);
        x.say(0);
        Check.due("SAID ones do not count", x, x.best(), 2, "5 2");
        x = Check.funeral("00", "9,9", "5+1bd;2-2bd;4+1ac");
        Check.due("of equal ones the first", x, x.best(), 1, "5 1");
        x = Check.funeral("0000", "9,9", "2-2a;2-2b;2-2c;2-2c");
        Check.due("of false ones alone the fewest", x, x.best(), 3, "0 0");
        x = Check.funeral("0000", "9,9", "2-2ad;2-2b;2-2c;2-2bcd");
        Check.due("a false one less", x, x.best(), 0, "0 1");
        x = Check.funeral("0000", "9,9", "5+1ab;2-2a;9+1a");
        Check.take(x, 0);
        x.say(2);
        Check.due("the second then", x, x.best(), 1, "5 0");
        x.step();
        x.say(1);
        Check.due("a false one that is SAID does not count", x, x.best(), 0, "5 0");
    }

    private static void old() {
        SixToCarry x = Check.funeral("0", "", "10+1;5-1;5+1");
        Check.due("bits of none such", x.old(8, 0), -1);
        Check.due("bits below", x.old(-1, 0), -1);
        Check.due("v above", x.old(1, 161), -1);
        Check.due("v below", x.old(1, -161), -1);
        Check.due("most", x.old(1, 160), 1);
        Check.due("least", x.old(7, -160), 2);
        for (int k = 3; k <= 8; k++) {
            Check.due("old walk " + k, x.old(0, 0), k);
        }
        Check.due("8 there are", x.old(0, 0), -1);
        Check.due("how many", x.count(10), 8);
        Check.due("forget()", x.forget(), 8);
        Check.due("forget() again", x.forget(), 0);
        Check.due("how many then", x.count(10), 0);
        Check.due("one anew", x.old(1, 10), 1);
    }

    private static void worlds() {
        SixToCarry x = Check.funeral("0", "", "10+1;5-1;5+1");
        Check.due("all", x, x.worlds(), 8, "0");
        Check.due("sure of nothing", x, x.sure(), 0, "0");
        x.old(6, 0);
        Check.due("one of two is true", x, x.worlds(), 4, "2");
        Check.due("nothing is sure", x, x.sure(), 0, "0");
        x.old(3, -5);
        Check.due("the first false, the second true", x, x.worlds(), 1, "2");
        Check.due("all is sure", x, x.sure(), 2, "5");
        x.old(1, 10);
        Check.due("no world", x, x.worlds(), 0, "-1");
        Check.due("nothing is sure then", x, x.sure(), 0, "0");
        Check.due("nothing to ask about", x.ask(), -2);
        Check.due("the row stays", Check.row(x), "0");
        x.forget();
        x.old(0, 0);
        Check.due("an old walk without sayings", x, x.worlds(), 8, "0");
        x.old(0, 1);
        Check.due("one that can't be", x, x.worlds(), 0, "-1");
        SixToCarry y = new SixToCarry();
        Check.due("without sayings", y, y.worlds(), 1, "0");
        Check.due("without sayings, sure", y, y.sure(), 0, "0");
        Check.due("without sayings, ask", y.ask(), -2);
        SixToCarry z = Check.funeral("0", "", "20+1;1-1;5+1");
        z.old(1, -20);
        Check.due("whatever it is told to be", z, z.worlds(), 4, "0");
        Check.due("sure that it is false", z, z.sure(), 0, "1");
    }

    private static void ask() {
        SixToCarry x = Check.funeral("0", "", "10+1;5-1;5+1");
        Check.due("the first", x, x.ask(), 0, "4");
        x.old(1, 10);
        Check.due("not what is sure", x, x.ask(), 1, "2");
        x.old(2, -5);
        Check.due("what is left", x, x.ask(), 2, "1");
        x.old(4, 5);
        Check.due("if all is sure", x, x.ask(), 0, "1");
        SixToCarry y = Check.funeral("0", "", "5+1;5-1;5+1");
        y.old(7, 5);
        // two of three are true: each in two worlds of three
        Check.due("at most two of three", y, y.ask(), 0, "2");
        SixToCarry z = Check.funeral("0", "", "9+1;9+1;9+1;9+1");
        z.old(15, -18);
        // one of four is true
        Check.due("at most three of four", z, z.ask(), 0, "3");
        z.old(3, 0);
        Check.due("at most one of two", z, z.ask(), 0, "1");
        z.forget();
        z.old(1, 9);
        z.old(14, 9);
        Check.due("not the sure one", z, z.ask(), 1, "2");
    }

    private static void widow() {
        SixToCarry x = Check.funeral("00000", "9,9", "1+3;1+9;1+2;1+9d;1-0");
        Check.due("nothing", x, x.widow(0, 0), 0, "");
        Check.due("she hears all", x, x.widow(15, 0), 23, "0 1 2 3");
        Check.due("all but one", x, x.widow(15, 1), 14, "1 0 2 3");
        Check.due("all but two", x, x.widow(15, 2), 5, "1 3 0 2");
        Check.due("all but three", x, x.widow(15, 3), 2, "0 1 3 2");
        Check.due("nothing of it", x, x.widow(15, 4), 0, "0 1 2 3");
        Check.due("nothing, late", x, x.widow(15, 12), 0, "0 1 2 3");
        Check.due("harm of 0 last", x, x.widow(31, 4), 0, "0 1 2 3 4");
        Check.due("the others", x, x.widow(21, 1), 2, "0 2 4");
        Check.take(x, 0);
        x.step();
        x.step();
        Check.due("from the third corner on", x, x.widow(7, 2), 14, "0 1 2");
        Check.due("all but one from there", x, x.widow(7, 3), 5, "1 0 2");
        Check.due("she heard earlier", x, x.widow(7, 0), 14, "0 1 2");
        Check.due("too many for the corners left", x.widow(15, 0), -2);
        Check.due("the row stays", Check.row(x), "0 1 2");
        SixToCarry y = Check.funeral("00000", "9,9", "1+3a;1+3a;1+3;1+3");
        Check.due("of as little the least row", y, y.widow(15, 2), 6, "0 1 2 3");
        y.say(0);
        Check.due("SPOKEN is all the same", y, y.widow(14, 1), 6, "1 2 3");
    }

    private static void widowRefuses() {
        SixToCarry x = Check.funeral("0000000", "9,9", "1+3a;1+9;1+2;1+9d;1-0;1+1;1+2;1+3");
        Check.due("seven", x.widow(127, 0), -3);
        Check.due("six", x, x.widow(126, 0), 23, "1 2 3 4 5 6");
        Check.due("e above", x.widow(1, 13), -1);
        Check.due("e below", x.widow(1, -1), -1);
        Check.due("seven, e above", x.widow(127, 13), -1);
        Check.due("none such", x.widow(256, 0), -1);
        Check.due("none such below", x.widow(-1, 0), -1);
        x.say(0);
        Check.due("one was SAID", x.widow(3, 0), -3);
        Check.text(x, "0").way();
        Check.due("one was SAID, asked first", x.widow(7, 0), -3);
        Check.due("seven, asked first", x.widow(254, 0), -3);
        Check.due("there are not so many", x.widow(6, 0), -2);
        Check.due("one there is", x, x.widow(4, 1), 0, "2");
        Check.take(x, 0);
        x.step();
        Check.due("nothing on the hill", x, x.widow(0, 0), 0, "");
        Check.due("one on the hill", x.widow(4, 0), -2);
    }

    private static void claim() {
        SixToCarry x = Check.funeral("0", "", "1+1;1+1");
        int[][] wrong = {{4, 0, 1}, {-1, 0, 1}, {0, 2, 1}, {0, -1, 1}, {0, 0, 2}, {0, 0, -1}};
        for (int[] w : wrong) {
            Check.due("claim(" + w[0] + ", " + w[1] + ", " + w[2] + ")", x.claim(w[0], w[1], w[2]), -1);
        }
        for (int k = 1; k <= 16; k++) {
            Check.due("claim " + k, x.claim(k % 4, k % 2, 1), k);
        }
        Check.due("16 there are", x.claim(0, 0, 1), -1);
        Check.due("how many", x.count(11), 16);
        Check.due("unsaid()", x.unsaid(), 16);
        Check.due("unsaid() again", x.unsaid(), 0);
        Check.due("how many then", x.count(11), 0);
        Check.due("one anew", x.claim(3, 1, 0), 1);
    }

    private static void believe() {
        SixToCarry x = Check.funeral("0", "", "1+1;1+1;1-1;1-1");
        Check.due("no claims", x, x.believe(), 0, "0");
        x.claim(2, 0, 1);
        x.claim(2, 1, 0);
        x.claim(3, 0, 1);
        Check.due("claims that are alike", x, x.believe(), 0, "0");
        x.claim(1, 1, 1);
        Check.due("one of two, the least", x, x.believe(), 1, "2");
        x.claim(3, 1, 0);
        x.claim(1, 0, 0);
        Check.due("one against two", x, x.believe(), 1, "2");
        x.claim(0, 3, 1);
        x.claim(0, 3, 0);
        Check.due("one who contradicts himself", x, x.believe(), 2, "3");
        x.unsaid();
        x.claim(0, 0, 1);
        x.claim(1, 0, 0);
        x.claim(2, 0, 1);
        x.claim(3, 0, 0);
        Check.due("two of four", x, x.believe(), 2, "5");
        x.claim(0, 1, 1);
        x.claim(2, 1, 0);
        Check.due("two and two", x, x.believe(), 2, "5");
        x.claim(1, 1, 1);
        x.claim(3, 1, 0);
        Check.due("each against three", x, x.believe(), 3, "7");
        for (int who = 0; who < 4; who++) {
            x.claim(who, 2, 0);
            x.claim(who, 2, 1);
        }
        Check.due("all of them", x, x.believe(), 4, "15");
    }
}
