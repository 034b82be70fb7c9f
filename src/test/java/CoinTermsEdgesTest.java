import java.util.HashSet;
import java.util.Set;
import java.util.function.Supplier;

/** The boundary cases of the section "Terms" for coins, chances and refusals, sentence by sentence. */
public final class CoinTermsEdgesTest {
    private static final Edges EDGES = new Edges();

    private static void due(String call, long got, long want) {
        EDGES.due(call, got, want);
    }

    private static void dueBits(String call, long got, double want) {
        EDGES.dueBits(call, got, want);
    }

    /** Every ENDING pays v on each of its LINES. */
    private static ThreeReels paying(int v, int lines, int room, int coins) {
        ThreeReels x = new ThreeReels();
        x.pay(-1, -1, -1, v);
        x.lines(lines);
        x.room(room);
        x.fill(coins);
        return x;
    }

    private static void coins(String when, ThreeReels x, int... want) {
        for (int what = 0; what < want.length; what++) {
            due(when + ": coins(" + what + ")", x.coins(what), want[what]);
        }
    }

    private static void hopperElseBox() {
        ThreeReels x = paying(0, 1, 1, 0);
        x.play(0, 0, 0);
        coins("ROOM 1, the first", x, 1, 0, 1, 0, 0);
        x.play(0, 0, 0);
        coins("ROOM 1, the second", x, 1, 1, 2, 0, 0);
        x = paying(0, 3, 200, 197);
        x.play(0, 0, 0);
        coins("three to 200", x, 200, 0, 3, 0, 0);
        x = paying(0, 3, 200, 198);
        x.play(0, 0, 0);
        coins("two to 200", x, 200, 1, 3, 0, 0);
        x = paying(0, 3, 200, 199);
        x.play(0, 0, 0);
        coins("one to 200", x, 200, 2, 3, 0, 0);
        x = paying(0, 3, 200, 200);
        x.play(0, 0, 0);
        coins("none to 200", x, 200, 3, 3, 0, 0);
        x = paying(0, 3, 1, 0);
        x.play(0, 0, 0);
        coins("three to a ROOM of 1", x, 1, 2, 3, 0, 0);
        x = paying(0, 2, 100, 99);
        x.play(0, 0, 0);
        coins("two at 99 of 100", x, 100, 1, 2, 0, 0);
        x.lines(1);
        x.room(101);
        x.play(0, 0, 0);
        coins("ROOM for one more", x, 101, 1, 3, 0, 0);
    }

    private static void roomAtFirst() {
        ThreeReels x = new ThreeReels();
        due("coins(7)", x.coins(7), 100);
        due("fill(101)", x.fill(101), Edges.NO);
        due("fill(100)", x.fill(100), 100);
        x.play(0, 0, 0);
        due("the hundred and first is in THE BOX", x.coins(1), 1);
    }

    private static void paysAndOwes() {
        ThreeReels x = paying(5, 1, 100, 4);
        due("just as many are there", x.play(0, 0, 0), 5);
        coins("just as many", x, 0, 0, 1, 5, 0);
        x = paying(5, 1, 100, 3);
        due("one is not there", x.play(0, 0, 0), 5);
        coins("one is OWED", x, 0, 0, 1, 4, 1);
        x = paying(5, 1, 100, 5);
        x.play(0, 0, 0);
        coins("one more is there", x, 1, 0, 1, 5, 0);
        x = paying(5, 1, 100, 0);
        due("empty", x.play(0, 0, 0), 5);
        coins("its own coin alone", x, 0, 0, 1, 1, 4);
        x = paying(5, 1, 5, 5);
        x.play(0, 0, 0);
        coins("full: the coin goes to THE BOX first", x, 0, 1, 1, 5, 0);
        x = paying(6, 1, 5, 5);
        x.play(0, 0, 0);
        coins("THE BOX doesn't pay", x, 0, 1, 1, 5, 1);
        x.fill(5);
        coins("what is OWED stays OWED", x, 5, 1, 1, 5, 1);
        x = paying(0, 1, 100, 7);
        due("pays 0", x.play(0, 0, 0), 0);
        coins("nothing paid", x, 8, 0, 1, 0, 0);
        x = paying(10000, 3, 200, 200);
        due("the dearest", x.play(3, 3, 3), 30000);
        coins("the dearest from 200", x, 0, 3, 3, 200, 29800);
    }

    private static void dryOfNoGames() {
        dueBits("new", new ThreeReels().dry(0, 0), 0.0);
        ThreeReels x = paying(10000, 3, 200, 0);
        dueBits("no coins", x.dry(0, 0), 0.0);
        dueBits("all its ROOM", x.dry(200, 0), 0.0);
        dueBits("but with a game", x.dry(200, 1), 1.0);
        x.dry(0, 50);
        dueBits("again none after many", x.dry(0, 0), 0.0);
    }

    private static void dryAboveH() {
        ThreeReels x = paying(5, 1, 100, 0);
        dueBits("3 and 1 are fewer than 5", x.dry(3, 1), 1.0);
        dueBits("4 and 1 are 5", x.dry(4, 1), 0.0);
        dueBits("none is left for a second", x.dry(4, 2), 1.0);
        dueBits("8 are enough for two", x.dry(8, 2), 0.0);
        dueBits("7 are not", x.dry(7, 2), 1.0);
        x = paying(2, 1, 200, 0);
        dueBits("one fewer each game: 50 last 50 games", x.dry(50, 50), 0.0);
        dueBits("49 last 49 games", x.dry(49, 49), 0.0);
        dueBits("49 don't last 50", x.dry(49, 50), 1.0);
        x = paying(1, 1, 1, 0);
        dueBits("its own coin pays", x.dry(0, 50), 0.0);
        x = paying(1, 3, 3, 0);
        dueBits("three for three", x.dry(0, 50), 0.0);
        x = paying(0, 1, 1, 0);
        dueBits("nothing to pay", x.dry(0, 50), 0.0);
    }

    private static void dryRoomAtMost() {
        ThreeReels x = paying(5, 1, 5, 0);
        dueBits("full with 5, pays 5", x.dry(5, 1), 0.0);
        x = paying(6, 1, 5, 0);
        dueBits("full with 5, pays 6", x.dry(5, 1), 1.0);
        x = paying(2, 1, 50, 0);
        dueBits("the first coin finds no ROOM: 49 games", x.dry(50, 49), 0.0);
        dueBits("the first coin finds no ROOM: 50 games", x.dry(50, 50), 1.0);
        x = paying(1, 3, 2, 0);
        dueBits("three coins in a ROOM of 2", x.dry(0, 1), 1.0);
        x = paying(1, 3, 200, 0);
        dueBits("the greatest ROOM, full", x.dry(200, 50), 0.0);
        x = paying(67, 3, 200, 0);
        dueBits("201 from 200", x.dry(200, 1), 1.0);
        x = paying(50, 2, 100, 0);
        dueBits("100 of 99 and 2", x.dry(99, 1), 0.0);
        dueBits("100 of 97 and 2", x.dry(97, 1), 1.0);
    }

    /** REEL 0 of 7 STOPS: 0 pays nothing, 1 pays 1, 2 pays 2, 3 pays 3; D by the document's words. */
    private static ThreeReels sevenths() {
        ThreeReels x = new ThreeReels();
        x.reel(0, 7);
        x.picture(0, 1, 1);
        x.picture(0, 2, 2);
        x.picture(0, 3, 3);
        x.picture(0, 4, 3);
        // rows that fall and rise: the sum goes by what is paid, not by rows
        x.pay(3, -1, -1, 3);
        x.pay(1, -1, -1, 1);
        x.pay(2, -1, -1, 2);
        x.room(9);
        return x;
    }

    private static double sevenths(int h, int t) {
        if (t == 0) {
            return 0.0;
        }
        int grown = h + 1 > 9 ? 9 : h + 1;
        double[] many = {48, 16, 16, 32};
        double sum = 0.0;
        for (int v = 0; v <= 3; v++) {
            sum = sum + (many[v] / 112.0) * (v > grown ? 1.0 : sevenths(grown - v, t - 1));
        }
        return sum;
    }

    private static void drySumRises() {
        ThreeReels x = sevenths();
        for (int h = 0; h <= 9; h++) {
            for (int t = 0; t <= 7; t++) {
                dueBits("dry(" + h + ", " + t + ")", x.dry(h, t), sevenths(h, t));
            }
        }
        EDGES.changesNothing(Edges::busy, "dry(50, 50)", y -> y.dry(50, 50));
    }

    /** What THE HOPPER has is of no matter, and a change of strips, PAYS or LINES tells at once. */
    private static void dryOfAllEndings() {
        ThreeReels x = paying(5, 1, 100, 100);
        dueBits("h is told", x.dry(0, 1), 1.0);
        x.clear();
        dueBits("PAYS are gone", x.dry(0, 1), 0.0);
        x.pay(1, -1, -1, 5);
        dueBits("none has it", x.dry(0, 1), 0.0);
        x.picture(0, 0, 1);
        dueBits("one of four has it", x.dry(0, 1), 0.25);
        x.lines(2);
        dueBits("two of four have it", x.dry(0, 1), 0.5);
        x.lines(3);
        dueBits("three of four have it", x.dry(0, 1), 0.75);
        // of what was counted for other LINES nothing is left: 1 in 4 pays 5
        x.lines(1);
        dueBits("in one of two games", x.dry(0, 2), 0.75 * 0.25 + 0.25);
        x.reel(0, 8);
        dueBits("blank", x.dry(0, 1), 0.0);
        x.count(1, 4);
        x.lay(0);
        dueBits("all have it", x.dry(0, 1), 1.0);
    }

    /** Each three of 0 .. 3, in some order, stands side by side on this strip once. */
    private static final int[] ALL_THREES = {0, 0, 0, 1, 1, 1, 2, 0, 2, 0, 3, 1, 3, 1, 2, 2, 2, 3, 3, 3};
    /** Each three of 0 and 1, in each order, stands side by side on this strip. */
    private static final int[] ALL_BITS = {0, 0, 0, 1, 0, 1, 1, 1, 0, 0, 0, 0, 0, 0, 0, 0, 0, 0, 0, 0};
    /** Of these and 0 no two threes add up to the same. */
    private static final int[] APART = {1, 4, 13, 32, 71, 124, 218, 375, 572, 744, 1208, 1556};

    /** Twelve rows or none on three LINES in every mixture: 455 different pays, as many as there can be. */
    private static void dryOfAllSums() {
        ThreeReels x = Edges.reelsOf(20);
        PlainReels plain = new PlainReels();
        int[][] strips = {ALL_BITS, ALL_BITS, ALL_THREES};
        for (int reel = 0; reel < 3; reel++) {
            plain.reel(reel, 20);
            for (int stop = 0; stop < 20; stop++) {
                x.picture(reel, stop, strips[reel][stop]);
                plain.picture(reel, stop, strips[reel][stop]);
            }
        }
        for (int row = 0; row < 12; row++) {
            x.pay(row % 2, row / 2 % 2, row / 4, APART[row]);
            plain.pay(row % 2, row / 2 % 2, row / 4, APART[row]);
        }
        x.lines(3);
        plain.lines(3);
        x.room(200);
        plain.room(200);
        Set<Integer> sums = new HashSet<>();
        for (int ending = 0; ending < 8000; ending++) {
            sums.add(plain.ending(ending / 400, ending / 20 % 20, ending % 20));
        }
        due("different pays", sums.size(), 455);
        for (int h : new int[] {0, 1, 100, 199, 200}) {
            for (int t : new int[] {0, 1, 2, 50}) {
                due("dry(" + h + ", " + t + ")", x.dry(h, t), plain.dry(h, t));
            }
        }
    }

    /** One ENDING in 400 pays 90 or more: THE HOPPER mostly grows, by one, two or three a game. */
    private static void dryWhileItGrows() {
        ThreeReels x = Edges.uneven();
        PlainReels plain = new PlainReels();
        plain.reel(1, 5);
        plain.reel(2, 20);
        plain.picture(0, 3, 1);
        plain.picture(1, 4, 1);
        plain.picture(2, 19, 1);
        x.pay(1, 1, 1, 90);
        plain.pay(1, 1, 1, 90);
        x.pay(1, 1, -1, 31);
        plain.pay(1, 1, -1, 31);
        for (int lines = 1; lines <= 3; lines++) {
            x.lines(lines);
            plain.lines(lines);
            for (int t = 1; t <= 50; t += 7) {
                for (int h = 0; h <= 100; h += 25) {
                    due("LINES " + lines + ": dry(" + h + ", " + t + ")", x.dry(h, t), plain.dry(h, t));
                }
            }
        }
    }

    private static void seenTwoHundred() {
        ThreeReels x = new ThreeReels();
        for (int game = 1; game <= 199; game++) {
            x.play(1, 2, 3);
        }
        due("199", x.coins(6), 199);
        x.play(0, 2, 3);
        due("200", x.coins(6), 200);
        due("the two hundredth is SEEN: 199 of 200", x.odd(0), oddOf(199, 200, 4));
        due("200 of 200", x.odd(1), oddOf(200, 200, 4));
        due("it pays on", x.play(1, 3, 2), 0);
        due("201 are not", x.coins(6), 200);
        due("REEL 0 as before", x.odd(0), oddOf(199, 200, 4));
        due("REEL 1 as before", x.odd(1), oddOf(200, 200, 4));
        due("favoured as before", x.favoured(2), 3);
        due("its coin is taken", x.coins(2), 201);
        due("and lies in THE BOX", x.coins(1), 101);
    }

    private static void favouredOfLikeOnes() {
        ThreeReels x = Edges.reelsOf(20);
        x.play(19, 19, 0);
        due("one game at the last STOP", x.favoured(0), 19);
        due("one game at STOP 0", x.favoured(2), 0);
        x.play(18, 19, 1);
        due("18 is like 19", x.favoured(0), 18);
        due("19 twice", x.favoured(1), 19);
        due("0 is like 1", x.favoured(2), 0);
        x.play(0, 0, 1);
        due("0 is like 18 and 19", x.favoured(0), 0);
        due("19 more often than 0", x.favoured(1), 19);
        due("1 more often than 0", x.favoured(2), 1);
        x.play(19, 0, 0);
        due("19 twice, too", x.favoured(0), 19);
        due("0 is like 19", x.favoured(1), 0);
        due("0 is like 1 again", x.favoured(2), 0);
    }

    private static long oddOf(int m, int games, int n) {
        double[] p = new double[games + 1];
        p[0] = 1.0;
        for (int game = 0; game < games; game++) {
            for (int j = games; j > 0; j--) {
                p[j] = p[j] * (1.0 - 1.0 / n) + p[j - 1] * (1.0 / n);
            }
            p[0] = p[0] * (1.0 - 1.0 / n);
        }
        double sum = 0.0;
        for (int j = m; j <= games; j++) {
            sum = sum + p[j];
        }
        return Double.doubleToLongBits(sum);
    }

    private static void howOdd() {
        for (int n = 4; n <= 20; n++) {
            ThreeReels x = Edges.reelsOf(n);
            x.play(n - 1, 0, 1);
            dueBits("1 of 1 at " + n, x.odd(0), 1.0 / n);
            double miss = 1.0 - 1.0 / n;
            double hit = 1.0 / n;
            x.play(n - 1, 1, 2);
            dueBits("2 of 2 at " + n, x.odd(0), hit * hit);
            dueBits("1 of 2 at " + n, x.odd(1), (hit * miss + miss * hit) + hit * hit);
            due("1 of 2 at " + n + ", again", x.odd(2), oddOf(1, 2, n));
        }
        ThreeReels x = Edges.reelsOf(20);
        for (int game = 0; game < 200; game++) {
            x.play(19, game % 20, game % 2 * 19);
        }
        due("200 of 200 at 20", x.odd(0), oddOf(200, 200, 20));
        due("10 of 200 at 20, the least that can be", x.odd(1), oddOf(10, 200, 20));
        due("100 of 200 at 20", x.odd(2), oddOf(100, 200, 20));
        x = new ThreeReels();
        for (int game = 0; game < 200; game++) {
            x.play(game % 4, 3, game % 3);
        }
        due("50 of 200 at 4, the least that can be", x.odd(0), oddOf(50, 200, 4));
        due("200 of 200 at 4", x.odd(1), oddOf(200, 200, 4));
        due("67 of 200 at 4", x.odd(2), oddOf(67, 200, 4));
    }

    private static ThreeReels twelveRows() {
        ThreeReels x = Edges.busy();
        for (int row = 2; row < 12; row++) {
            x.pay(row % 8, -1, row % 5, row);
        }
        return x;
    }

    private static ThreeReels fullHopper() {
        ThreeReels x = Edges.busy();
        x.fill(50 - x.coins(0));
        return x;
    }

    private static ThreeReels tooFewCounts() {
        ThreeReels x = Edges.busy();
        x.count(7, 0);
        return x;
    }

    private static void firstOfBadNoFull() {
        Supplier<ThreeReels> few = CoinTermsEdgesTest::tooFewCounts;
        EDGES.refused(few, "lay(0): NO alone", x -> x.lay(0), Edges.NO);
        EDGES.refused(few, "lay(3): BAD ahead of NO", x -> x.lay(3), Edges.BAD);
        EDGES.refused(few, "lay(-1): BAD ahead of NO", x -> x.lay(-1), Edges.BAD);
        Supplier<ThreeReels> rows = CoinTermsEdgesTest::twelveRows;
        EDGES.refused(rows, "pay(0, 0, 0, 0): FULL alone", x -> x.pay(0, 0, 0, 0), Edges.FULL);
        EDGES.refused(rows, "pay(7, -1, 7, 10000): FULL alone", x -> x.pay(7, -1, 7, 10000), Edges.FULL);
        EDGES.refused(rows, "pay(8, 0, 0, 0): BAD ahead of FULL", x -> x.pay(8, 0, 0, 0), Edges.BAD);
        EDGES.refused(rows, "pay(0, -2, 0, 0): BAD ahead of FULL", x -> x.pay(0, -2, 0, 0), Edges.BAD);
        EDGES.refused(rows, "pay(0, 0, 8, 0): BAD ahead of FULL", x -> x.pay(0, 0, 8, 0), Edges.BAD);
        EDGES.refused(rows, "pay(0, 0, 0, -1): BAD ahead of FULL", x -> x.pay(0, 0, 0, -1), Edges.BAD);
        EDGES.refused(rows, "pay(0, 0, 0, 10001): BAD ahead of FULL", x -> x.pay(0, 0, 0, 10001), Edges.BAD);
        Supplier<ThreeReels> full = CoinTermsEdgesTest::fullHopper;
        EDGES.refused(full, "room(49): NO alone", x -> x.room(49), Edges.NO);
        EDGES.refused(full, "room(0): BAD ahead of NO", x -> x.room(0), Edges.BAD);
        EDGES.refused(full, "room(-1): BAD ahead of NO", x -> x.room(-1), Edges.BAD);
        EDGES.refused(full, "room(201): BAD", x -> x.room(201), Edges.BAD);
        EDGES.refused(full, "fill(1): NO alone", x -> x.fill(1), Edges.NO);
        EDGES.refused(full, "fill(200): NO alone", x -> x.fill(200), Edges.NO);
        EDGES.refused(full, "fill(201): BAD ahead of NO", x -> x.fill(201), Edges.BAD);
        EDGES.refused(full, "fill(2147483647): BAD ahead of NO", x -> x.fill(Integer.MAX_VALUE), Edges.BAD);
        EDGES.refused(full, "fill(-1): BAD", x -> x.fill(-1), Edges.BAD);
        Supplier<ThreeReels> blank = ThreeReels::new;
        EDGES.refused(blank, "favoured(3): BAD where NONE is SEEN", x -> x.favoured(3), Edges.BAD);
        EDGES.refused(blank, "favoured(-1): BAD where NONE is SEEN", x -> x.favoured(-1), Edges.BAD);
        EDGES.refused(blank, "odd(3): BAD where NONE is SEEN", x -> x.odd(3), Edges.BAD);
        EDGES.refused(blank, "odd(-1): BAD where NONE is SEEN", x -> x.odd(-1), Edges.BAD);
        EDGES.refused(blank, "change(3, 1, 2): BAD where it is NONE", x -> x.change(3, 1, 2), Edges.BAD);
    }

    /** The document's last call is the 512th: what is taken and OWED till then is told without wrapping. */
    private static void callsTo512() {
        ThreeReels x = new ThreeReels();
        x.pay(-1, -1, -1, 10000);
        x.lines(3);
        for (int game = 0; game < 506; game++) {
            due("game " + game, x.play(0, 0, 0), 30000);
        }
        due("509th: SEEN", x.coins(6), 200);
        due("510th: taken", x.coins(2), 3 * 506);
        due("511th: paid", x.coins(3), 3 * 506);
        due("512th: OWED", x.coins(4), 506 * 29997);
    }

    public static void main(String[] args) {
        EDGES.sentence("to THE HOPPER, as long as it has fewer than its ROOM, else to THE BOX", CoinTermsEdgesTest::hopperElseBox);
        EDGES.sentence("ROOM (.. 100 at first)", CoinTermsEdgesTest::roomAtFirst);
        EDGES.sentence("It pays an ENDING from THE HOPPER; what is not there is OWED", CoinTermsEdgesTest::paysAndOwes);
        EDGES.sentence("D(h, 0) is 0.0", CoinTermsEdgesTest::dryOfNoGames);
        EDGES.sentence("1.0 if v is above h, else D(h - v, t - 1)", CoinTermsEdgesTest::dryAboveH);
        EDGES.sentence("h grows by LINES (ROOM at most)", CoinTermsEdgesTest::dryRoomAtMost);
        EDGES.sentence("a sum, from 0.0 on, over pays v of ENDINGS, rising", CoinTermsEdgesTest::drySumRises);
        EDGES.sentence("as many as c: (c by ALL)", CoinTermsEdgesTest::dryOfAllEndings);
        EDGES.sentence("D(h, t): h grows by LINES", CoinTermsEdgesTest::dryWhileItGrows);
        EDGES.sentence("over pays v of ENDINGS", CoinTermsEdgesTest::dryOfAllSums);
        EDGES.sentence("SEEN: STOPS of REELS at which games ended, 200 at most", CoinTermsEdgesTest::seenTwoHundred);
        EDGES.sentence("FAVOURED of a REEL: .. (of like ones the least)", CoinTermsEdgesTest::favouredOfLikeOnes);
        EDGES.sentence("HOW ODD: the chance of m or more of M at 1 by n each", CoinTermsEdgesTest::howOdd);
        EDGES.sentence("Refused, changing nothing, the first of: BAD .. NO .. FULL", CoinTermsEdgesTest::firstOfBadNoFull);
        EDGES.sentence("An object is used for at most 512 calls", CoinTermsEdgesTest::callsTo512);
        EDGES.finish();
    }
}
