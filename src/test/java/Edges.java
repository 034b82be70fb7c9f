import java.util.ArrayList;
import java.util.Arrays;
import java.util.List;
import java.util.function.Supplier;

/** Boundary cases, each told under the sentence of the document that names it. */
final class Edges {
    interface Call {
        long on(ThreeReels x);
    }

    interface CallWith {
        long on(ThreeReels x, int v);
    }

    static final int NONE = -1;
    static final int BAD = -2;
    static final int NO = -3;
    static final int FULL = -4;

    private static final int[] FAR = {2, 256, 65536, 1 << 24, 1 << 30};

    private final Checks checks = new Checks();
    private String words = "";
    private int sentences = 0;

    /** A test of its own for a sentence; one that looks at nothing is a fault. */
    void sentence(String told, Runnable test) {
        words = told;
        sentences++;
        int before = checks.looked();
        test.run();
        checks.isTrue(told + " is looked at", checks.looked() > before);
    }

    void due(String call, long got, long want) {
        checks.due(words + " | " + call, got, want);
    }

    void dueBits(String call, long got, double want) {
        due(call, got, Double.doubleToLongBits(want));
    }

    /** Answers as told, and everything that can be asked stays as in an object without the call. */
    void refused(Supplier<ThreeReels> made, String text, Call call, long want) {
        ThreeReels x = made.get();
        due(text, call.on(x), want);
        same(text, x, made.get());
    }

    /** A question: whatever it answers, nothing is changed by it. */
    void changesNothing(Supplier<ThreeReels> made, String text, Call call) {
        ThreeReels x = made.get();
        call.on(x);
        same(text, x, made.get());
    }

    private void same(String text, ThreeReels x, ThreeReels untouched) {
        long[] got = view(x);
        long[] want = view(untouched);
        checks.isTrue(words + " | " + text + " changes nothing: " + Arrays.toString(got)
            + ", due is " + Arrays.toString(want), Arrays.equals(got, want));
    }

    /** From lo to hi a number is as told: it isn't answered by BAD; all others are. */
    void range(Supplier<ThreeReels> made, String text, int lo, int hi, CallWith call) {
        for (int v : new int[] {lo, (lo + hi) / 2, hi}) {
            long got = call.on(made.get(), v);
            checks.isTrue(words + " | " + text + " with " + v + " is as told, answered " + got, got != BAD);
        }
        bad(made, text, lo - 1, call);
        bad(made, text, hi + 1, call);
        bad(made, text, Integer.MIN_VALUE, call);
        bad(made, text, Integer.MAX_VALUE, call);
        for (int far : FAR) {
            // lo - far and hi + far are what a narrower number would take for allowed ones
            bad(made, text, lo - far, call);
            bad(made, text, hi + far, call);
        }
    }

    private void bad(Supplier<ThreeReels> made, String text, int v, CallWith call) {
        refused(made, text + " with " + v, x -> call.on(x, v), BAD);
    }

    /** All that can be asked of an object, which is of no use afterwards. */
    private static long[] view(ThreeReels x) {
        List<Long> seen = new ArrayList<>();
        seen.add(x.digest());
        for (int reel = 0; reel < 3; reel++) {
            seen.add((long) x.favoured(reel));
            seen.add(x.odd(reel));
            for (int stop = 0; stop <= 20; stop++) {
                seen.add((long) x.at(reel, stop));
            }
        }
        for (int i = 0; i < 12; i++) {
            seen.add(x.all(i));
            seen.add((long) x.rows(i));
            seen.add((long) x.misses(i));
            seen.add((long) x.coins(i));
        }
        seen.add((long) x.ending(0, 0, 0));
        seen.add(x.dry(0, 1));
        seen.add(x.dry(1, 3));
        for (int p = 0; p < 8; p++) {
            seen.add((long) x.count(p, 0));
        }
        seen.add((long) x.lines(1));
        seen.add((long) x.room(200));
        seen.add((long) x.clear());
        return seen.stream().mapToLong(Long::longValue).toArray();
    }

    /** Nothing as it is at first: reels of 5, 6 and 4 STOPS, COUNTS, PAYS, two LINES, coins, games SEEN. */
    static ThreeReels busy() {
        ThreeReels x = new ThreeReels();
        x.reel(0, 5);
        x.count(0, 2);
        x.count(3, 1);
        x.count(7, 3);
        x.lay(1);
        x.picture(0, 0, 1);
        x.picture(0, 4, 7);
        x.picture(2, 3, 2);
        x.pay(1, -1, -1, 6);
        x.pay(-1, 7, 2, 9);
        x.lines(2);
        x.room(50);
        x.fill(20);
        x.play(0, 1, 2);
        x.play(0, 1, 2);
        x.play(4, 5, 3);
        return x;
    }

    /** Three REELS of n STOPS. */
    static ThreeReels reelsOf(int n) {
        ThreeReels x = new ThreeReels();
        for (int reel = 0; reel < 3; reel++) {
            x.reel(reel, n);
        }
        return x;
    }

    /** REELS of 4, 5 and 20 STOPS with PICTURE 1 at their last STOPS. */
    static ThreeReels uneven() {
        ThreeReels x = new ThreeReels();
        x.reel(1, 5);
        x.reel(2, 20);
        x.picture(0, 3, 1);
        x.picture(1, 4, 1);
        x.picture(2, 19, 1);
        return x;
    }

    /** REELS of 4 STOPS, on each the PICTURES 0, 1, 2, 3: a row of PAYS names one ENDING. */
    static ThreeReels numbered() {
        ThreeReels x = new ThreeReels();
        for (int reel = 0; reel < 3; reel++) {
            for (int stop = 1; stop < 4; stop++) {
                x.picture(reel, stop, stop);
            }
        }
        return x;
    }

    void finish() {
        System.out.println(sentences + " sentences");
        checks.finish();
    }
}
