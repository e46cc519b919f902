/** Calls of the class by their names, so that a test can draw them. */
final class Faces {
    private Faces() {
    }

    /** The answer; a boolean counts 1 or 0. */
    static long call(SixToCarry x, String name, int[] a) {
        switch (name) {
            case "sign": return x.sign(a[0]);
            case "end": return x.end(a[0]) ? 1 : 0;
            case "way": return x.way();
            case "bearers": return x.bearers();
            case "sayings": return x.sayings();
            case "rule": return x.rule();
            case "bearer": return x.bearer(a[0], a[1]);
            case "saying": return x.saying(a[0], a[1]);
            case "force": return x.force();
            case "load": return x.load(a[0]);
            case "sheet": return x.sheet(a[0], a[1], a[2], a[3]);
            case "step": return x.step();
            case "take": return x.take(a[0]);
            case "leave": return x.leave(a[0]);
            case "seventh": return x.seventh(a[0]);
            case "say": return x.say(a[0]);
            case "walk": return x.walk();
            case "undo": return x.undo();
            case "ahead": return x.ahead(a[0]);
            case "first": return x.first();
            case "bears": return x.bears();
            case "hush": return x.hush();
            case "which": return x.which();
            case "could": return x.could();
            case "team": return x.team(a[0]);
            case "fewest": return x.fewest();
            case "change": return x.change();
            case "props": return x.props();
            case "rest": return x.rest(a[0]);
            case "slant": return x.slant();
            case "cover": return x.cover(a[0]);
            case "lighter": return x.lighter(a[0]);
            case "secret": return x.secret(a[0]);
            case "best": return x.best();
            case "old": return x.old(a[0], a[1]);
            case "forget": return x.forget();
            case "worlds": return x.worlds();
            case "sure": return x.sure();
            case "ask": return x.ask();
            case "widow": return x.widow(a[0], a[1]);
            case "claim": return x.claim(a[0], a[1], a[2]);
            case "unsaid": return x.unsaid();
            case "believe": return x.believe();
            case "slips": return x.slips(a[0]);
            case "rests": return x.rests(a[0]);
            case "law": return x.law();
            case "years": return x.years(a[0], a[1]);
            case "keep": return x.keep(a[0]) ? 1 : 0;
            case "again": return x.again(a[0]) ? 1 : 0;
            case "count": return x.count(a[0]);
            case "row": return x.row(a[0]);
            default: throw new AssertionError(name);
        }
    }
}
