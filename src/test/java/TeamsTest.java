/** Promises 26 to 31: teams. */
public final class TeamsTest {
    public static void main(String[] args) {
        team();
        fewest();
        change();
        props();
        rest();
        slant();
        Check.end();
    }

    private static void team() {
        SixToCarry x = Check.funeral("5", "30,2;30,2;25,9;40,1;10,2", "");
        Check.take(x, 4);
        Check.due("another k", x.team(0), -1);
        Check.due("another k above", x.team(7), -1);
        Check.due("there are not so many", x.team(6), -2);
        Check.due("one", x, x.team(1), 40, "8");
        Check.due("two, of as much the least", x, x.team(2), 69, "9");
        Check.due("three", x, x.team(3), 99, "11");
        // 2 beside the others costs each its height: 25 + 23 + 23 + 32
        Check.due("four", x, x.team(4), 109, "27");
        Check.due("five", x, x.team(5), 25 + 23 + 23 + 32 + 3, "31");
        Check.rule(x, "5");
        Check.due("of as much the least", x, x.team(3), 15, "7");
        Check.rule(x, "0");
        Check.due("of no force", x, x.team(2), 0, "3");
        Check.rule(x, "n*10+c+i");
        Check.due("by how many they are, and by their numbers", x, x.team(2), 57, "24");
        x.step();
        Check.due("on the hill", x, x.team(2), 47, "24");
        SixToCarry y = Check.funeral("5", "1,1;1,1;1,1;1,1;1,1;1,1;9,1;8,1", "");
        Check.due("six of eight", y, y.team(6), 21, "207");
        Check.due("seven can't", y.team(7), -1);
    }

    private static void fewest() {
        SixToCarry x = Check.funeral("5", "30,2;30,2;25,9;40,1;10,2", "");
        Check.due("none here", new SixToCarry().fewest(), -2);
        Check.due("65 are needed", x, x.fewest(), 2, "9 69");
        x.load(35);
        Check.due("40 are needed", x, x.fewest(), 1, "8 40");
        x.load(36);
        Check.due("41 are needed", x, x.fewest(), 2, "9 69");
        x.load(94);
        Check.due("99 are needed", x, x.fewest(), 3, "11 99");
        x.load(104);
        Check.due("109 are needed", x, x.fewest(), 4, "27 109");
        x.load(105);
        Check.due("110 are needed", x.fewest(), -2);
        Check.due("the row stays", Check.row(x), "27 109");
        x.load(0);
        Check.rule(x, "c");
        Check.due("one of like ones", x, x.fewest(), 1, "1 5");
        SixToCarry y = Check.funeral("0", "10,1;10,1;10,1;10,1;10,1;10,1;10,1;10,1", "");
        Check.due("six", y, y.fewest(), 6, "63 60");
        y.load(61);
        Check.due("seven are too many", y.fewest(), -2);
    }

    private static void change() {
        SixToCarry x = Check.funeral("5", "30,2;30,2;25,9;40,1;10,2", "");
        Check.due("nobody to let go", x.change(), -2);
        Check.take(x, 0, 4);
        // 3 for 4: 30 + 39; 1 for 4: 60; 2 for 4: 23 + 25; for 0: less
        Check.due("the best change", x, x.change(), 69, "4 3");
        Check.take(x, 1, 3);
        x.leave(4);
        // carrying 0, 1, 3 with 99: 2 for 0 or 1: 25 + 23 + 32; 4 for 0 or 1: 10 + 30 + 39; for 3: less
        Check.due("a change for the worse", x, x.change(), 80, "0 2");
        Check.take(x, 2, 4);
        Check.due("nobody to take hold", x.change(), -2);
        Check.due("the row stays", Check.row(x), "0 2");
        Check.rule(x, "7");
        x.leave(2);
        x.leave(3);
        Check.due("of as good ones the least row", x, x.change(), 21, "0 2");
        Check.rule(x, "0");
        Check.due("of no force", x, x.change(), 0, "0 2");
    }

    private static void props() {
        SixToCarry x = Check.funeral("5", "30,2;30,2;25,9;40,1;10,2", "");
        Check.due("nobody", x, x.props(), 0, "0");
        Check.take(x, 0, 1, 3);
        // without 0 or 1: 69; without 3: 60; 65 are needed
        Check.due("one alone", x, x.props(), 8, "1");
        x.load(64);
        Check.due("69 are needed", x, x.props(), 8, "1");
        x.load(65);
        Check.due("70 are needed", x, x.props(), 11, "3");
        x.load(0);
        Check.due("none", x, x.props(), 0, "0");
        x.leave(0);
        x.leave(1);
        Check.due("the last one", x, x.props(), 8, "1");
        x.sheet(3, 0, 0, 0);
        Check.due("nothing is needed", x, x.props(), 0, "0");
        Check.take(x, 2);
        x.load(30);
        // 2 carries 25 alone, 3 carries 40
        Check.due("who is needed", x, x.props(), 8, "1");
    }

    private static void rest() {
        SixToCarry x = Check.funeral("0000", "30,2;20,9", "");
        x.load(999);
        Check.due("none such", x.rest(2), -1);
        Check.due("none such below", x.rest(-1), -1);
        Check.due("not tired", x, x.rest(0), 0, "30");
        Check.take(x, 0, 1);
        x.step();
        Check.due("3: in two steps", x, x.rest(0), 2, "30");
        x.step();
        Check.due("6: in three", x, x.rest(0), 3, "30");
        x.load(0);
        x.step();
        Check.due("7: in four", x, x.rest(0), 4, "30");
        Check.rule(x, "s+t+x+10*n+i");
        Check.due("if it alone carried here", x, x.rest(0), 4, "42");
        Check.due("the other one", x, x.rest(1), 4, "40");
    }

    private static void slant() {
        SixToCarry x = Check.funeral("0", "30,2;20,9;5,9;5,2;5,5", "");
        Check.due("nobody", x.slant(), -2);
        Check.take(x, 1);
        Check.due("one", x.slant(), -2);
        Check.take(x, 2);
        Check.due("of the same height", x, x.slant(), 0, "1 2");
        Check.take(x, 4);
        Check.due("4", x, x.slant(), 4, "1 4");
        Check.take(x, 3);
        Check.due("7", x, x.slant(), 7, "1 3");
        Check.take(x, 0);
        Check.due("the least row", x, x.slant(), 7, "0 1");
        x.leave(1);
        Check.due("the next row", x, x.slant(), 7, "0 2");
    }
}
