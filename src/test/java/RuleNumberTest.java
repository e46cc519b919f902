/** THE RULE's thing i is the number of the BEARER (Terms, 1), wherever THE RULE is asked. */
public final class RuleNumberTest {
    public static void main(String[] args) {
        each();
        walk();
        far();
        teams();
        chance();
        Check.end();
    }

    /** BEARERS 0 .. 3 who are worth 0, 10, 20, 30; 1 and 3 carry. */
    private static SixToCarry tens() {
        SixToCarry x = Check.funeral("050", "1,1;1,1;1,1;1,1", "1+0a;1+0b");
        Check.rule(x, "i*10");
        Check.take(x, 1, 3);
        return x;
    }

    private static void each() {
        SixToCarry x = tens();
        for (int at = 0; at <= 3; at++) {
            for (int b = 0; b < 4; b++) {
                Check.due("BEARER " + b + " at " + at, x.bearer(b, 4), 10 * b);
            }
            Check.due("FORCE at " + at, x.force(), 40);
            x.step();
        }
        SixToCarry all = Check.funeral("0", "1,1;1,1;1,1;1,1;1,1;1,1;1,1;1,1", "");
        Check.rule(all, "i");
        for (int b = 0; b < 8; b++) {
            Check.due("of eight", all.bearer(b, 4), b);
        }
    }

    private static void walk() {
        SixToCarry x = tens();
        x.load(40);
        Check.due("just enough", x.step(), 0);
        Check.due("STEEP is too much", x.step(), 1);
        x.leave(1);
        x.take(2);
        Check.due("a greater number", x.step(), 0);
        SixToCarry y = tens();
        y.load(36);
        Check.due("a walk", y, Check.text(y, ">>l3>").walk(), 4, "0 2");
    }

    private static void far() {
        SixToCarry x = tens();
        x.load(36);
        Check.due("ahead", x, x.ahead(3), 1, "3 10");
        Check.due("first", x.first(), 1);
        Check.due("bears", x.bears(), 35);
        Check.due("hush", x, x.hush(), 1, "0 0");
        Check.due("which", x, x.which(), 0, "1 1 -2 -2");
    }

    private static void teams() {
        SixToCarry x = tens();
        x.load(36);
        Check.due("one", x, x.team(1), 30, "8");
        Check.due("two", x, x.team(2), 50, "12");
        Check.due("fewest", x, x.fewest(), 2, "12 50");
        Check.due("change", x, x.change(), 50, "1 2");
        Check.due("props", x, x.props(), 10, "2");
        x.load(30);
        Check.due("props, one", x, x.props(), 8, "1");
        Check.due("rest", x, x.rest(3), 0, "30");
        Check.due("rest of the first", x, x.rest(0), 0, "0");
    }

    private static void chance() {
        SixToCarry x = tens();
        x.load(30);
        Check.due("BEARER 3 must not slip", x, x.slips(1), 0, "9 10");
        // seed 0 draws a STEP first
        x.load(40);
        Check.due("a STEP drawn", x, x.years(0, 1), 0, "1 40");
        x.load(41);
        Check.due("a STEP drawn, too heavy", x, x.years(0, 1), 1, "1 41");
        x.load(36);
        Check.rule(x, "");
        Check.due("law", x, Check.text(x, "i*10").law(), 1, "1 0");
    }
}
