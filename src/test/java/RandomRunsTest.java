import java.util.Random;

/** Runs of calls picked by a fixed seed, each answer held against PlainReels. */
public final class RandomRunsTest {
    /** What an object answers after so many calls is free. */
    private static final int MOST_CALLS = 512;
    private static final int MOST_CALLS_OF_A_STEP = 4;

    private static final int[] ODD_ONES = {-1, -2, 8, 20, 21, 200, 201, 10001, Integer.MAX_VALUE, Integer.MIN_VALUE};

    private final Random random;
    private final Checks checks;
    private final ThreeReels x = new ThreeReels();
    private final PlainReels plain = new PlainReels();
    private final int mostStops;
    private final int pictures;
    private final String run;
    /** Mostly plays and keeps its reels, so that more than 200 games end. */
    private final boolean playful;
    private int calls = 0;

    private RandomRunsTest(int seed, Checks checks) {
        this.random = new Random(seed);
        this.checks = checks;
        this.mostStops = seed % 10 == 0 ? 20 : 4 + seed % 6;
        this.pictures = 2 + seed % 7;
        this.run = "run " + seed + ": ";
        this.playful = seed % 4 == 1;
    }

    /** Mostly from lo to hi, now and then something else. */
    private int some(int lo, int hi) {
        if (random.nextInt(60) == 0) {
            return ODD_ONES[random.nextInt(ODD_ONES.length)];
        }
        if (random.nextInt(60) == 0) {
            return random.nextBoolean() ? lo - 1 : hi + 1;
        }
        return lo + random.nextInt(hi - lo + 1);
    }

    private int stops(int reel) {
        int n = 0;
        while (plain.at(reel, n) != ThreeReels.BAD) {
            n++;
        }
        return n;
    }

    private int stop(int reel) {
        // some stops come more often, so that a reel favours one
        return random.nextInt(3) == 0 ? random.nextInt(2) : some(0, stops(reel) - 1);
    }

    private void due(String call, long got, long want) {
        calls++;
        checks.due(run + call, got, want);
    }

    private void set() {
        int reel = some(0, 2);
        int n = some(4, mostStops);
        due("reel(" + reel + ", " + n + ")", x.reel(reel, n), plain.reel(reel, n));
    }

    private void paint() {
        int reel = some(0, 2);
        int stop = reel >= 0 && reel < 3 ? some(0, stops(reel) - 1) : 0;
        int p = some(0, pictures - 1);
        due("picture(" + reel + ", " + stop + ", " + p + ")", x.picture(reel, stop, p), plain.picture(reel, stop, p));
        due("at(" + reel + ", " + stop + ")", x.at(reel, stop), plain.at(reel, stop));
    }

    private void laying() {
        int picture = some(0, 7);
        int many = some(0, random.nextInt(8) == 0 ? 20 : 4);
        due("count(" + picture + ", " + many + ")", x.count(picture, many), plain.count(picture, many));
        if (random.nextInt(6) == 0) {
            int reel = some(0, 2);
            due("lay(" + reel + ")", x.lay(reel), plain.lay(reel));
        }
    }

    private int wish() {
        return random.nextInt(4) == 0 ? -1 : some(0, pictures - 1);
    }

    private void pay() {
        int a = wish();
        int b = wish();
        int c = wish();
        int v = some(0, random.nextInt(3) == 0 ? 10000 : 12);
        due("pay(" + a + ", " + b + ", " + c + ", " + v + ")", x.pay(a, b, c, v), plain.pay(a, b, c, v));
    }

    private void ending() {
        int a = stop(0);
        int b = stop(1);
        int c = stop(2);
        String at = "(" + a + ", " + b + ", " + c;
        int held = some(0, 7);
        int k = some(0, 6);
        int what = some(0, 1);
        due("ending" + at + ")", x.ending(a, b, c), plain.ending(a, b, c));
        due("worth" + at + ", " + held + ")", x.worth(a, b, c, held), plain.worth(a, b, c, held));
        due("hold" + at + ")", x.hold(a, b, c), plain.hold(a, b, c));
        due("nudge" + at + ", " + k + ", " + what + ")", x.nudge(a, b, c, k, what), plain.nudge(a, b, c, k, what));
    }

    private void play() {
        int a = stop(0);
        int b = stop(1);
        int c = stop(2);
        due("play(" + a + ", " + b + ", " + c + ")", x.play(a, b, c), plain.play(a, b, c));
    }

    private void totals() {
        int what = some(0, 4);
        int row = some(0, 11);
        int picture = some(0, 7);
        due("all(" + what + ")", x.all(what), plain.all(what));
        due("rows(" + row + ")", x.rows(row), plain.rows(row));
        due("misses(" + picture + ")", x.misses(picture), plain.misses(picture));
    }

    private void change() {
        int reel = some(0, 2);
        int back = (int) plain.all(3);
        int lo = random.nextInt(3) == 0 ? some(0, 10000000) : Math.max(0, back - 100 + random.nextInt(200));
        int hi = random.nextInt(20) == 0 ? some(0, 10000000) : lo + random.nextInt(200);
        due("change(" + reel + ", " + lo + ", " + hi + ")", x.change(reel, lo, hi), plain.change(reel, lo, hi));
    }

    private void hopper() {
        int n = some(0, random.nextInt(4) == 0 ? 200 : 20);
        due("fill(" + n + ")", x.fill(n), plain.fill(n));
        if (random.nextInt(4) == 0) {
            int v = some(1, 200);
            due("room(" + v + ")", x.room(v), plain.room(v));
        }
        int what = some(0, 7);
        due("coins(" + what + ")", x.coins(what), plain.coins(what));
    }

    private void odds() {
        int reel = some(0, 2);
        int h = some(0, plain.coins(7));
        int t = some(0, random.nextInt(4) == 0 ? 50 : 8);
        due("dry(" + h + ", " + t + ")", x.dry(h, t), plain.dry(h, t));
        due("favoured(" + reel + ")", x.favoured(reel), plain.favoured(reel));
        due("odd(" + reel + ")", x.odd(reel), plain.odd(reel));
    }

    private void step() {
        int pick = random.nextInt(100);
        if (playful && random.nextInt(5) != 0) play();
        else if (pick < 1 && !playful) set();
        else if (pick < 20) paint();
        else if (pick < 28) laying();
        else if (pick < 38) pay();
        else if (pick < 39) due("clear()", x.clear(), plain.clear());
        else if (pick < 44) {
            int v = some(1, 3);
            due("lines(" + v + ")", x.lines(v), plain.lines(v));
        } else if (pick < 52) ending();
        else if (pick < 82) play();
        else if (pick < 87) totals();
        else if (pick < 88) change();
        else if (pick < 94) hopper();
        else if (pick < 98) odds();
        else due("digest()", x.digest(), plain.digest());
    }

    public static void main(String[] args) {
        Checks checks = new Checks();
        for (int seed = 1; seed <= 160; seed++) {
            RandomRunsTest test = new RandomRunsTest(seed, checks);
            // every third object goes on with the reels that it has at first
            for (int reel = 0; reel < 3 && seed % 3 != 0; reel++) {
                int n = test.mostStops;
                test.due("reel(" + reel + ", " + n + ")", test.x.reel(reel, n), test.plain.reel(reel, n));
            }
            // one call is left for the digest
            while (test.calls + MOST_CALLS_OF_A_STEP < MOST_CALLS) {
                test.step();
            }
            test.due("digest()", test.x.digest(), test.plain.digest());
        }
        checks.finish();
    }
}
