import com.sun.management.ThreadMXBean;
import java.lang.management.ManagementFactory;

/** All calls of a run live in one room: an object is small, and its calls make no objects. */
public final class RoomTest {
    private static final Checks CHECKS = new Checks();
    private static final ThreadMXBean THREADS = (ThreadMXBean) ManagementFactory.getThreadMXBean();
    private static final long SMALL_OBJECT = 64 * 1024;
    private static final int MOST_CALLS = 512;

    private static long made() {
        return THREADS.getThreadAllocatedBytes(Thread.currentThread().getId());
    }

    /** Of each call one that is carried out, and of some one that is refused: 40 calls. */
    private static long round(ThreeReels x, int reel, int stop) {
        long answers = x.reel(reel, 20) + x.reel(3, 20) + x.picture(reel, stop, 5) + x.picture(reel, 20, 5);
        answers += x.count(0, 13) + x.count(5, 7) + x.count(8, 1) + x.lay(reel) + x.lay(-1);
        answers += x.pay(5, 5, -1, 40) + x.pay(0, -1, -1, 3) + x.pay(9, 0, 0, 1) + x.lines(1 + reel) + x.lines(4);
        answers += x.at(reel, stop) + x.at(reel, 20) + x.ending(stop, stop, stop) + x.ending(20, 0, 0);
        answers += x.all(0) + x.all(1) + x.all(3) + x.all(4) + x.rows(1) + x.misses(5);
        answers += x.worth(stop, stop, stop, 5) + x.hold(stop, stop, stop) + x.nudge(stop, stop, stop, 6, 1);
        answers += x.change(reel, 1, 900) + x.room(200) + x.fill(1) + x.fill(201) + x.play(stop, stop, stop);
        answers += x.coins(0) + x.coins(8) + x.dry(10, 50) + x.dry(201, 1) + x.favoured(reel) + x.odd(reel);
        return answers + x.digest() + x.clear();
    }

    private static long rounds() {
        ThreeReels x = new ThreeReels();
        for (int reel = 0; reel < 3; reel++) {
            x.reel(reel, 20);
        }
        long before = made();
        for (int done = 3; done + 40 <= MOST_CALLS; done += 40) {
            round(x, done % 3, done % 20);
        }
        return made() - before;
    }

    public static void main(String[] args) {
        CHECKS.isTrue("what is made can be counted", THREADS.isThreadAllocatedMemorySupported());
        // the first time classes are loaded, which makes objects that are not the calls' own
        new ThreeReels();
        rounds();
        long before = made();
        ThreeReels x = new ThreeReels();
        long size = made() - before;
        CHECKS.isTrue("a new object takes little: " + size, x.digest() != 0 && 0 < size && size <= SMALL_OBJECT);
        // the least of three, as the machine may make something of its own in between
        long least = Math.min(rounds(), Math.min(rounds(), rounds()));
        CHECKS.due("bytes made by some 500 calls", least, 0);
        CHECKS.finish();
    }
}
