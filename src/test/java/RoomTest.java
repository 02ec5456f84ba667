import com.sun.management.ThreadMXBean;
import java.lang.management.ManagementFactory;

/**
 * Every call with any arguments, on empty and on full objects: none throws, and none makes anything new. No answer is looked
 * at, so here alone an object gets more than 512 calls: it may answer anything then, but must not throw.
 */
public final class RoomTest {
    private static final Due DUE = new Due("RoomTest");
    private static final ThreadMXBean THREADS = (ThreadMXBean) ManagementFactory.getThreadMXBean();
    private static final int[] ANY = {
        Integer.MIN_VALUE, -101, -21, -2, -1, 0, 1, 2, 3, 4, 5, 6, 7, 8, 9, 11, 12, 15, 16, 24, 25, 31, 32, 33, 60, 61,
        63, 64, 100, 101, 900, 901, 2999, 3000, 3001, 4095, 4096, 9000, 9001, 65535, 1 << 24, 1 << 30, Integer.MAX_VALUE,
    };

    private static void full(FleetDelegates x) {
        for (int s = 0; s < 6; s++) {
            x.ship(9 * s, 900, 9000, 9000, 50, s == 5 ? 0 : 100);
        }
        x.hours(1);
        String owe = "owe all 9 from 1 to 9";
        Due.articles(x, 0, owe + ";" + owe + ";" + owe + ";" + owe + ";" + owe + ";voice all 2;pardon all but 1;pardon 5 but 0;carry 9");
        Due.articles(x, 1, "carry 1;carry 2;carry 3;carry 4;carry 5;carry 6;carry 7;carry 8;pardon all but 5;owe 5 0");
        for (int i = 0; i < 16; i++) {
            x.paper(i % 6, 100);
            x.boat(i % 6, (i + 1) % 6, 1, 1, -1);
            x.fellow(i % 6, 63);
            x.officer(5, 1 << i % 4);
            x.battery(63, 7, 50);
        }
        x.list(4095, true);
        x.ask(0, 3, 3);
        for (int i = 0; i < 25; i++) {
            x.write(0x2020202020202020L, 8);
        }
    }

    private static void one(FleetDelegates x, int a) {
        x.fault();
        x.sailed();
        x.hours(a);
        x.articles(a);
        x.least(a);
        x.sharing(a);
        x.asked(a);
        x.count(a);
    }

    private static void two(FleetDelegates x, int a, int b) {
        x.set(a, b);
        x.paper(a, b);
        x.signal(a, b);
        x.at(a, b);
        x.knows(a, b);
        x.saw(a, b);
        x.write(a, b);
        x.unlike(a, b);
        x.fellow(a, b);
        x.named(a, b);
        x.vote(a, b);
        x.slip(a, b);
        x.officer(a, b);
        x.list(a, b > 0);
        x.needs(a, b);
        x.reaches(a, b);
        x.begin(a, b);
    }

    private static void three(FleetDelegates x, int a, int b, int c) {
        x.would(a, b, c);
        x.owed(a, b, c);
        x.voices(a, b, c);
        x.word(a, b, c);
        x.battery(a, b, c);
        x.ask(a, b, c);
        x.boat(a, b, c, c, -1);
        x.boat(a, b, 0, 0, c);
        x.boat(0, 1, a, b, c);
        x.ship(a, b, c, c, 0, 0);
        x.ship(0, 1, a, 0, b, c);
    }

    private static void any(FleetDelegates x) {
        for (int a : ANY) {
            one(x, a);
            for (int b : ANY) {
                two(x, a, b);
                for (int c : ANY) {
                    three(x, a, b, c);
                }
            }
        }
    }

    private static long allocated() {
        return THREADS.getCurrentThreadAllocatedBytes();
    }

    private static long made(FleetDelegates x) {
        long before = allocated();
        any(x);
        return allocated() - before;
    }

    public static void main(String[] args) {
        made(new FleetDelegates());
        long before = allocated();
        FleetDelegates full = new FleetDelegates();
        long object = allocated() - before;
        DUE.due("an object has so many bytes too many", object < 16000 ? 0 : object, 0);
        full(full);
        DUE.due("full: ships", full.count(0), 6);
        DUE.due("full: papers", full.count(4), 6);
        DUE.due("full: boats", full.count(3), 12);
        DUE.due("full: fellows", full.count(5), 16);
        DUE.due("full: ashore", full.count(7), 12);
        DUE.due("full: bytes", full.count(8), 200);
        DUE.due("full: a word of the last fellow", full.word(1, 15, 0), 5);
        DUE.due("bytes that calls on an empty object make", made(new FleetDelegates()), 0);
        DUE.due("bytes that calls on a full object make", made(full), 0);
        DUE.end();
    }
}
