/** Promises 18 to 25: coins, chances, and the digest. */
public final class CoinsTest {
    private static final int BIG = Integer.MAX_VALUE;
    private static final int SMALL = Integer.MIN_VALUE;
    private static final Checks CHECKS = new Checks();

    private static void due(String call, long got, long want) {
        CHECKS.due(call, got, want);
    }

    private static void dueBits(String call, long got, double want) {
        CHECKS.due(call, got, Double.doubleToLongBits(want));
    }

    private static void coins(String when, ThreeReels x, int... want) {
        for (int what = 0; what < 8; what++) {
            due(when + ": coins(" + what + ")", x.coins(what), want[what]);
        }
    }

    private static void roomAndFill() {
        ThreeReels x = new ThreeReels();
        due("room(200)", x.room(200), 100);
        due("fill(200)", x.fill(200), 200);
        long before = x.digest();
        CHECKS.refused(x, "fill(1) into a full one", before, x.fill(1), -3);
        due("fill(0) into a full one", x.fill(0), 200);
        CHECKS.refused(x, "room(199) with 200", before, x.room(199), -3);
        due("room(200) with 200", x.room(200), 200);
        CHECKS.refused(x, "room(0)", before, x.room(0), -2);
        CHECKS.refused(x, "room(201)", before, x.room(201), -2);
        CHECKS.refused(x, "room(SMALL)", before, x.room(SMALL), -2);
        CHECKS.refused(x, "fill(201)", before, x.fill(201), -2);
        CHECKS.refused(x, "fill(-1)", before, x.fill(-1), -2);
        CHECKS.refused(x, "fill(BIG)", before, x.fill(BIG), -2);
        coins("full", x, 200, 0, 0, 0, 0, 200, 0, 200);
        x = new ThreeReels();
        due("room(1)", x.room(1), 100);
        due("fill(2)", x.fill(2), -3);
        due("fill(1)", x.fill(1), 1);
        due("room(1) with 1", x.room(1), 1);
        coins("one", x, 1, 0, 0, 0, 0, 1, 0, 1);
    }

    private static void play() {
        ThreeReels x = new ThreeReels();
        x.picture(0, 0, 1);
        x.picture(0, 2, 2);
        x.pay(1, -1, -1, 5);
        x.pay(2, -1, -1, 2);
        x.room(4);
        x.fill(3);
        due("play(3, 0, 0)", x.play(3, 0, 0), 0);
        coins("a coin to the hopper", x, 4, 0, 1, 0, 0, 3, 1, 4);
        due("play(3, 1, 0)", x.play(3, 1, 0), 0);
        coins("a coin to the box", x, 4, 1, 2, 0, 0, 3, 2, 4);
        due("play(2, 0, 0)", x.play(2, 0, 0), 2);
        coins("paid", x, 2, 2, 3, 2, 0, 3, 3, 4);
        due("lines(3)", x.lines(3), 1);
        due("play(0, 0, 0)", x.play(0, 0, 0), 5);
        coins("two to the hopper, one to the box, four there to pay", x, 0, 3, 6, 6, 1, 3, 4, 4);
        due("lines(1)", x.lines(1), 3);
        due("play(0, 3, 3)", x.play(0, 3, 3), 5);
        coins("its own coin is paid, four are owed", x, 0, 3, 7, 7, 5, 3, 5, 4);
        due("fill(4)", x.fill(4), 4);
        coins("what was owed stays owed", x, 4, 3, 7, 7, 5, 7, 5, 4);
        long before = x.digest();
        CHECKS.refused(x, "play(4, 0, 0)", before, x.play(4, 0, 0), -2);
        CHECKS.refused(x, "play(0, 4, 0)", before, x.play(0, 4, 0), -2);
        CHECKS.refused(x, "play(0, 0, 4)", before, x.play(0, 0, 4), -2);
        CHECKS.refused(x, "play(-1, 0, 0)", before, x.play(-1, 0, 0), -2);
        CHECKS.refused(x, "play(BIG, SMALL, 0)", before, x.play(BIG, SMALL, 0), -2);
        due("coins(8)", x.coins(8), -2);
        due("coins(-1)", x.coins(-1), -2);
        due("coins(SMALL)", x.coins(SMALL), -2);
    }

    private static void dry() {
        ThreeReels x = new ThreeReels();
        dueBits("nothing pays: dry(0, 50)", x.dry(0, 50), 0.0);
        x.picture(0, 0, 1);
        x.pay(1, -1, -1, 2);
        dueBits("dry(0, 0)", x.dry(0, 0), 0.0);
        dueBits("dry(0, 1): 2 is above 1", x.dry(0, 1), 0.25);
        dueBits("dry(1, 1): 2 is there", x.dry(1, 1), 0.0);
        // from 1 coin: 1 in 4 leaves none, from which 1 in 4 runs dry; 3 in 4 leave 2 coins, enough
        dueBits("dry(1, 2)", x.dry(1, 2), 0.0625);
        dueBits("dry(0, 2)", x.dry(0, 2), 0.75 * 0.0 + 0.25);
        x.room(1);
        dueBits("ROOM at most: dry(1, 1)", x.dry(1, 1), 0.25);
        dueBits("ROOM at most: dry(1, 2)", x.dry(1, 2), 0.75 * 0.25 + 0.25);
        due("dry(2, 1)", x.dry(2, 1), -2);
        due("dry(-1, 1)", x.dry(-1, 1), -2);
        due("dry(0, 51)", x.dry(0, 51), -2);
        due("dry(0, -1)", x.dry(0, -1), -2);
        due("dry(BIG, SMALL)", x.dry(BIG, SMALL), -2);
        x.lines(2);
        x.room(200);
        // of two lines stops 0 and 1 pay 2 each, for which two coins come in
        dueBits("LINES are taken in: dry(0, 50)", x.dry(0, 50), 0.0);
        x.clear();
        x.pay(-1, -1, -1, 10000);
        dueBits("dry(200, 50) for sure", x.dry(200, 50), 1.0);
        x.room(100);
        due("dry(101, 0)", x.dry(101, 0), -2);
        dueBits("dry(100, 0)", x.dry(100, 0), 0.0);
    }

    /** Ten pays that no sum makes twice, on three lines of twenty stops: many different pays. */
    private static void dryOfManyPays() {
        ThreeReels x = new ThreeReels();
        PlainReels plain = new PlainReels();
        for (int reel = 0; reel < 3; reel++) {
            x.reel(reel, 20);
            plain.reel(reel, 20);
            for (int stop = 0; stop < 20; stop++) {
                int p = (stop * stop * (3 + reel) + stop * reel + stop / 3) % 8;
                x.picture(reel, stop, p);
                plain.picture(reel, stop, p);
            }
        }
        int[] amounts = {1, 4, 13, 32, 71, 124, 218, 375, 572, 744, 1208, 1556};
        for (int row = 0; row < 12; row++) {
            int a = row < 8 ? row : -1;
            int b = row < 8 ? -1 : row - 8;
            int c = row < 8 ? 7 - row : -1;
            x.pay(a, b, c, amounts[row]);
            plain.pay(a, b, c, amounts[row]);
        }
        x.lines(3);
        plain.lines(3);
        x.room(200);
        plain.room(200);
        int[] hs = {0, 1, 50, 199, 200};
        int[] ts = {1, 2, 49, 50};
        for (int h : hs) {
            for (int t : ts) {
                due("many pays: dry(" + h + ", " + t + ")", x.dry(h, t), plain.dry(h, t));
            }
        }
        due("many pays: all(4)", x.all(4), plain.all(4));
    }

    /** Reels of 4, 5 and 6 stops whose pays let the hopper grow, for each number of lines. */
    private static void dryOfUneven() {
        ThreeReels x = new ThreeReels();
        PlainReels plain = new PlainReels();
        for (int reel = 0; reel < 3; reel++) {
            x.reel(reel, 4 + reel);
            plain.reel(reel, 4 + reel);
            x.picture(reel, 3, 1);
            plain.picture(reel, 3, 1);
        }
        x.pay(1, 1, -1, 30);
        plain.pay(1, 1, -1, 30);
        x.pay(1, -1, 1, 7);
        plain.pay(1, -1, 1, 7);
        for (int lines = 1; lines <= 3; lines++) {
            x.lines(lines);
            plain.lines(lines);
            for (int t = 0; t <= 50; t += 5) {
                for (int h = 0; h <= 100; h += 20) {
                    due("uneven, " + lines + " lines: dry(" + h + ", " + t + ")", x.dry(h, t), plain.dry(h, t));
                }
            }
        }
    }

    private static void favoured() {
        ThreeReels x = new ThreeReels();
        x.reel(2, 20);
        x.play(3, 1, 19);
        due("favoured(0) of one", x.favoured(0), 3);
        due("favoured(2) of one", x.favoured(2), 19);
        dueBits("odd(0) of one", x.odd(0), 0.25);
        dueBits("odd(2) of one", x.odd(2), 1.0 / 20);
        x.play(1, 1, 5);
        due("favoured(0) of like ones", x.favoured(0), 1);
        due("favoured(1) of two", x.favoured(1), 1);
        due("favoured(2) of like ones", x.favoured(2), 5);
        dueBits("odd(0): 1 or more of 2", x.odd(0), 0.375 + 0.0625);
        dueBits("odd(1): 2 of 2", x.odd(1), 0.0625);
        due("favoured(3)", x.favoured(3), -2);
        due("favoured(-1)", x.favoured(-1), -2);
        due("favoured(BIG)", x.favoured(BIG), -2);
        due("odd(3)", x.odd(3), -2);
        due("odd(-1)", x.odd(-1), -2);
        due("odd(SMALL)", x.odd(SMALL), -2);
        x.reel(0, 4);
        due("favoured(2) of none", x.favoured(2), -1);
        due("odd(2) of none", x.odd(2), -1);
    }

    private static void twoHundredSeen() {
        ThreeReels x = new ThreeReels();
        x.reel(0, 20);
        for (int game = 0; game < 200; game++) {
            x.play(7, game < 101 ? 2 : 1, game % 4);
        }
        due("200 seen", x.coins(6), 200);
        due("favoured(1)", x.favoured(1), 2);
        double least = 1.0;
        for (int game = 0; game < 200; game++) {
            least = least * (1.0 / 20);
        }
        dueBits("the least chance: 200 of 200", x.odd(0), least);
        for (int game = 0; game < 5; game++) {
            x.play(0, 1, 0);
        }
        due("no more than 200 seen", x.coins(6), 200);
        due("those after are not seen", x.favoured(1), 2);
        due("but their coins are taken", x.coins(2), 205);
        dueBits("as odd as before", x.odd(0), least);
        x.reel(2, 4);
        x.play(0, 0, 3);
        due("seen anew", x.coins(6), 1);
        due("favoured(1) anew", x.favoured(1), 0);
        due("favoured(2) anew", x.favoured(2), 3);
        x.play(1, 1, 2);
        due("favoured(0) of 0 and 1", x.favoured(0), 0);
    }

    private static long mixed(long... values) {
        long h = 251;
        for (long v : values) {
            h = 31 * h + v;
        }
        return h;
    }

    private static void digest() {
        ThreeReels x = new ThreeReels();
        due("digest() of a new one", x.digest(), mixed(64, 0, 0, 0, 4, 0, 0, 0, 0, 4, 0, 0, 0, 0, 4, 0, 0, 0, 0,
            0, 0, 0, 0, 0, 0, 0, 0, 1, 0, 0, 0, 0, 0, 0, 0, 100));
        x.reel(1, 5);
        x.picture(0, 3, 2);
        x.picture(1, 4, 7);
        x.picture(2, 0, 1);
        x.count(0, 9);
        x.count(7, 20);
        x.pay(2, -1, 1, 6);
        x.pay(-1, 7, 0, 3);
        x.lines(2);
        x.room(3);
        x.fill(2);
        x.play(3, 0, 0);
        // row 0 pays 5 endings, row 1 pays 12, and as many above; (3, 0, 0) and (0, 4, 1) hit with both lines
        due("digest() of all", x.digest(), mixed(80, 2 * (5 * 6 + 12 * 3), 32, 825,
            4, 0, 0, 0, 2, 5, 0, 0, 0, 0, 7, 4, 1, 0, 0, 0,
            9, 0, 0, 0, 0, 0, 0, 20, 2, -1, 1, 6, -1, 7, 0, 3, 2,
            0, 1, 2, 3, 6, 2, 1, 3));
        due("digest() again", x.digest(), x.digest());
    }

    public static void main(String[] args) {
        roomAndFill();
        play();
        dry();
        dryOfManyPays();
        dryOfUneven();
        favoured();
        twoHundredSeen();
        digest();
        CHECKS.finish();
    }
}
