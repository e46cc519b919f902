import com.sun.management.ThreadMXBean;
import java.lang.management.ManagementFactory;

/** An object is small, and its calls make nothing new. */
public final class RoomTest {
    private static final ThreadMXBean THREADS = (ThreadMXBean) ManagementFactory.getThreadMXBean();

    public static void main(String[] args) {
        calls();
        objects();
        Check.end();
    }

    private static long made() {
        return THREADS.getThreadAllocatedBytes(Thread.currentThread().getId());
    }

    private static void calls() {
        SixToCarry x = Check.funeral("012345678901", "30,5;20,6;25,7;9,1;33,2;40,4;12,5;13,8",
                "9+1a;20-1abc;8+8ad;7-1abcd;3+3a;5+5a;6+6a;7+7a");
        Check.take(x, 0, 1, 2, 3, 4, 5);
        once(x);
        long ahead = made();
        for (int k = 0; k < 20; k++) {
            once(x);
        }
        long bytes = made() - ahead;
        Check.due("the calls make nothing, but made " + bytes + " bytes", bytes < 2000, true);
    }

    private static void once(SixToCarry x) {
        x.end(0);
        x.sign(0x732d7429);
        x.rule();
        x.sign(0x742d7333);
        x.law();
        x.sign(0x3e3e7361);
        x.walk();
        x.step();
        x.say(0);
        x.undo();
        x.undo();
        x.keep(0);
        x.again(0);
        x.hush();
        x.which();
        x.bears();
        x.could();
        x.team(4);
        x.fewest();
        x.change();
        x.props();
        x.slant();
        x.cover(255);
        x.best();
        x.old(255, 3);
        x.worlds();
        x.sure();
        x.ask();
        x.widow(63, 3);
        x.claim(0, 0, 1);
        x.believe();
        x.slips(3);
        x.rests(3);
        x.years(3, 60);
        x.forget();
        x.unsaid();
    }

    private static void objects() {
        new SixToCarry();
        long ahead = made();
        for (int k = 0; k < 100; k++) {
            new SixToCarry();
        }
        long bytes = (made() - ahead) / 100;
        Check.due("an object takes little room, but took " + bytes + " bytes", bytes < 8000, true);
    }
}
