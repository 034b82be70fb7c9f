/** The boundary cases of promises 1 to 13, sentence by sentence. */
public final class StripsEdgesTest {
    private static final Edges EDGES = new Edges();

    private static void due(String call, long got, long want) {
        EDGES.due(call, got, want);
    }

    private static void newIsEmpty() {
        ThreeReels x = new ThreeReels();
        due("rows(0) of no PAYS", x.rows(0), Edges.BAD);
        due("ending(0, 0, 0)", x.ending(0, 0, 0), 0);
        int[] coins = {0, 0, 0, 0, 0, 0, 0, 100};
        for (int what = 0; what < 8; what++) {
            due("coins(" + what + ")", x.coins(what), coins[what]);
        }
        for (int reel = 0; reel < 3; reel++) {
            due("favoured(" + reel + ")", x.favoured(reel), Edges.NONE);
            due("odd(" + reel + ")", x.odd(reel), Edges.NONE);
        }
        for (int p = 0; p < 8; p++) {
            due("count(" + p + ", 0)", x.count(p, 0), 0);
        }
        due("lay(0) of no COUNTS", x.lay(0), Edges.NO);
        due("clear()", x.clear(), 0);
        due("lines(1)", x.lines(1), 1);
        due("room(100)", x.room(100), 100);
    }

    private static void newIsApart() {
        long first = new ThreeReels().digest();
        ThreeReels x = new ThreeReels();
        Edges.busy();
        due("another is busy", x.digest(), first);
    }

    private static void reelHasStops() {
        for (int reel = 0; reel < 3; reel++) {
            for (int n = 4; n <= 20; n++) {
                ThreeReels x = new ThreeReels();
                due("reel(" + reel + ", " + n + ")", x.reel(reel, n), 1);
                due("the last", x.at(reel, n - 1), 0);
                due("behind the last", x.at(reel, n), Edges.BAD);
                due("ALL", x.all(0), 16 * n);
            }
        }
    }

    private static void reelIsBlank() {
        for (int reel = 0; reel < 3; reel++) {
            ThreeReels x = Edges.reelsOf(20);
            for (int stop = 0; stop < 20; stop++) {
                x.picture(reel, stop, 7);
            }
            x.picture((reel + 1) % 3, 19, 6);
            due("as many again", x.reel(reel, 20), 1);
            for (int stop = 0; stop < 20; stop++) {
                due("blank at(" + reel + ", " + stop + ")", x.at(reel, stop), 0);
                x.picture(reel, stop, 7);
            }
            x.reel(reel, 4);
            for (int stop = 0; stop < 4; stop++) {
                due("shorter at(" + reel + ", " + stop + ")", x.at(reel, stop), 0);
            }
            x.reel(reel, 20);
            for (int stop = 0; stop < 20; stop++) {
                due("longer at(" + reel + ", " + stop + ")", x.at(reel, stop), 0);
            }
            due("another REEL stays", x.at((reel + 1) % 3, 19), 6);
        }
    }

    private static void nothingSeen(String call, ThreeReels x) {
        due(call + ": coins(6)", x.coins(6), 0);
        for (int reel = 0; reel < 3; reel++) {
            due(call + ": favoured(" + reel + ")", x.favoured(reel), Edges.NONE);
            due(call + ": odd(" + reel + ")", x.odd(reel), Edges.NONE);
        }
        x.play(3, 2, 1);
        due(call + ": seen anew", x.coins(6), 1);
        due(call + ": REEL 0 anew", x.favoured(0), 3);
        due(call + ": REEL 1 anew", x.favoured(1), 2);
        due(call + ": REEL 2 anew", x.favoured(2), 1);
    }

    private static void reelForgets() {
        for (int reel = 0; reel < 3; reel++) {
            ThreeReels x = Edges.busy();
            int taken = x.coins(2);
            x.reel(reel, 4);
            due("coins are taken for good", x.coins(2), taken);
            nothingSeen("reel(" + reel + ", 4)", x);
        }
        ThreeReels x = new ThreeReels();
        for (int game = 0; game < 200; game++) {
            x.play(0, 0, 0);
        }
        x.reel(2, 4);
        nothingSeen("after 200", x);
    }

    private static void reelBad() {
        EDGES.range(Edges::busy, "reel(?, 7)", 0, 2, (x, v) -> x.reel(v, 7));
        EDGES.range(Edges::busy, "reel(0, ?)", 4, 20, (x, v) -> x.reel(0, v));
        EDGES.range(Edges::busy, "reel(2, ?)", 4, 20, (x, v) -> x.reel(2, v));
        EDGES.refused(Edges::busy, "reel(3, 21)", x -> x.reel(3, 21), Edges.BAD);
        EDGES.refused(Edges::busy, "reel(0, 0)", x -> x.reel(0, 0), Edges.BAD);
    }

    private static void pictureWas() {
        ThreeReels x = new ThreeReels();
        x.reel(2, 20);
        int[][] ends = {{0, 0}, {0, 3}, {1, 0}, {1, 3}, {2, 0}, {2, 19}};
        for (int[] end : ends) {
            String at = "picture(" + end[0] + ", " + end[1] + ", ";
            due(at + "7)", x.picture(end[0], end[1], 7), 0);
            due(at + "7) again", x.picture(end[0], end[1], 7), 7);
            due(at + "0)", x.picture(end[0], end[1], 0), 7);
            due(at + "1)", x.picture(end[0], end[1], 1), 0);
        }
        for (int[] end : ends) {
            due("it stays", x.at(end[0], end[1]), 1);
        }
        due("beside an end", x.at(2, 18), 0);
        ThreeReels y = Edges.busy();
        y.picture(0, 0, 5);
        due("what was SEEN stays", y.coins(6), 3);
        due("and is FAVOURED", y.favoured(2), 2);
    }

    private static void pictureBad() {
        EDGES.range(Edges::busy, "picture(?, 0, 5)", 0, 2, (x, v) -> x.picture(v, 0, 5));
        EDGES.range(Edges::busy, "picture(0, ?, 5), of 5", 0, 4, (x, v) -> x.picture(0, v, 5));
        EDGES.range(Edges::busy, "picture(1, ?, 5), of 6", 0, 5, (x, v) -> x.picture(1, v, 5));
        EDGES.range(Edges::busy, "picture(2, ?, 5), of 4", 0, 3, (x, v) -> x.picture(2, v, 5));
        EDGES.range(() -> Edges.reelsOf(20), "picture(2, ?, 5), of 20", 0, 19, (x, v) -> x.picture(2, v, 5));
        EDGES.range(Edges::busy, "picture(0, 0, ?)", 0, 7, (x, v) -> x.picture(0, 0, v));
        EDGES.refused(Edges::busy, "picture(0, 0, NONE)", x -> x.picture(0, 0, -1), Edges.BAD);
        EDGES.refused(Edges::busy, "picture(3, -1, 8)", x -> x.picture(3, -1, 8), Edges.BAD);
    }

    private static void atIs() {
        ThreeReels x = Edges.busy();
        due("the first", x.at(0, 0), 1);
        due("the last of 5", x.at(0, 4), 7);
        due("the first laid", x.at(1, 0), 7);
        due("the last of 6", x.at(1, 5), 7);
        due("the last of 4", x.at(2, 3), 2);
        EDGES.changesNothing(Edges::busy, "at(0, 0)", y -> y.at(0, 0));
    }

    private static void atBad() {
        EDGES.range(Edges::busy, "at(?, 3)", 0, 2, (x, v) -> x.at(v, 3));
        EDGES.range(Edges::busy, "at(0, ?), of 5", 0, 4, (x, v) -> x.at(0, v));
        EDGES.range(Edges::busy, "at(1, ?), of 6", 0, 5, (x, v) -> x.at(1, v));
        EDGES.range(Edges::busy, "at(2, ?), of 4", 0, 3, (x, v) -> x.at(2, v));
        EDGES.range(() -> Edges.reelsOf(20), "at(1, ?), of 20", 0, 19, (x, v) -> x.at(1, v));
    }

    private static void countWas() {
        ThreeReels x = new ThreeReels();
        for (int p = 0; p < 8; p++) {
            due("count(" + p + ", 20)", x.count(p, 20), 0);
        }
        for (int p = 0; p < 8; p++) {
            due("count(" + p + ", 0)", x.count(p, 0), 20);
            due("count(" + p + ", 1)", x.count(p, 1), 0);
        }
        due("it lays nothing yet", x.at(0, 1), 0);
        due("no STOPS yet", x.at(0, 4), Edges.BAD);
        ThreeReels y = Edges.busy();
        y.count(0, 0);
        due("what was SEEN stays", y.coins(6), 3);
    }

    private static void countBad() {
        EDGES.range(Edges::busy, "count(?, 5)", 0, 7, (x, v) -> x.count(v, 5));
        EDGES.range(Edges::busy, "count(0, ?)", 0, 20, (x, v) -> x.count(0, v));
        EDGES.range(Edges::busy, "count(7, ?)", 0, 20, (x, v) -> x.count(7, v));
        EDGES.refused(Edges::busy, "count(NONE, 0)", x -> x.count(-1, 0), Edges.BAD);
        EDGES.refused(Edges::busy, "count(8, 21)", x -> x.count(8, 21), Edges.BAD);
    }

    /** As busy as can be, with COUNTS of all PICTURES told anew. */
    private static ThreeReels counted(int... many) {
        ThreeReels x = Edges.busy();
        for (int p = 0; p < 8; p++) {
            x.count(p, p < many.length ? many[p] : 0);
        }
        return x;
    }

    private static void layAnswers() {
        for (int n = 4; n <= 20; n++) {
            ThreeReels x = counted(0, n);
            due("lay(0) of " + n, x.lay(0), n);
            due("its last", x.at(0, n - 1), 1);
            due("behind its last", x.at(0, n), Edges.BAD);
            due("COUNTS stay", x.count(1, 0), n);
            due("other REELS stay", x.at(1, 5), 7);
        }
        ThreeReels x = counted(10, 10);
        due("20 of two", x.lay(2), 20);
        x = counted(1, 1, 1, 1);
        due("4 of four", x.lay(2), 4);
        x = counted(3, 3, 3, 3, 2, 2, 2, 2);
        due("20 of eight", x.lay(2), 20);
        x.count(7, 1);
        due("then 19", x.lay(2), 19);
        due("shorter than before", x.at(2, 19), Edges.BAD);
    }

    private static void layForgets() {
        for (int reel = 0; reel < 3; reel++) {
            ThreeReels x = counted(2, 2);
            x.lay(reel);
            nothingSeen("lay(" + reel + ")", x);
        }
    }

    private static void layNo() {
        EDGES.refused(() -> counted(), "lay(0) of 0", x -> x.lay(0), Edges.NO);
        EDGES.refused(() -> counted(3), "lay(0) of 3", x -> x.lay(0), Edges.NO);
        EDGES.refused(() -> counted(1, 0, 1, 0, 0, 0, 0, 1), "lay(1) of 1, 1 and 1", x -> x.lay(1), Edges.NO);
        EDGES.refused(() -> counted(20, 1), "lay(2) of 21", x -> x.lay(2), Edges.NO);
        EDGES.refused(() -> counted(11, 0, 0, 0, 0, 0, 0, 10), "lay(2) of 11 and 10", x -> x.lay(2), Edges.NO);
        EDGES.refused(() -> counted(20, 20, 20, 20, 20, 20, 20, 20), "lay(0) of 160", x -> x.lay(0), Edges.NO);
    }

    private static void layBad() {
        EDGES.range(() -> counted(2, 2), "lay(?)", 0, 2, (x, v) -> x.lay(v));
        EDGES.refused(() -> counted(), "lay(3) of 0", x -> x.lay(3), Edges.BAD);
        EDGES.refused(() -> counted(20, 20), "lay(-1) of 40", x -> x.lay(-1), Edges.BAD);
    }

    private static void payNumber() {
        ThreeReels x = new ThreeReels();
        for (int row = 0; row < 12; row++) {
            due("the next row", x.pay(-1, 7, 0, row * 900), row);
        }
        due("clear()", x.clear(), 12);
        for (int row = 0; row < 12; row++) {
            due("from 0 again", x.pay(7, -1, 7, 10000), row);
        }
    }

    private static void payBad() {
        EDGES.range(Edges::busy, "pay(?, 0, 0, 1)", -1, 7, (x, v) -> x.pay(v, 0, 0, 1));
        EDGES.range(Edges::busy, "pay(0, ?, 0, 1)", -1, 7, (x, v) -> x.pay(0, v, 0, 1));
        EDGES.range(Edges::busy, "pay(0, 0, ?, 1)", -1, 7, (x, v) -> x.pay(0, 0, v, 1));
        EDGES.range(Edges::busy, "pay(0, 0, 0, ?)", 0, 10000, (x, v) -> x.pay(0, 0, 0, v));
        EDGES.refused(Edges::busy, "pay(BAD, NO, FULL, NONE)", x -> x.pay(-2, -3, -4, -1), Edges.BAD);
        ThreeReels x = new ThreeReels();
        x.pay(0, 0, 0, 10000);
        due("10000 is paid", x.ending(0, 0, 0), 10000);
    }

    private static ThreeReels twelveRows() {
        ThreeReels x = Edges.busy();
        for (int row = 2; row < 12; row++) {
            x.pay(row % 8, -1, row % 5, row);
        }
        return x;
    }

    private static void payFull() {
        EDGES.refused(StripsEdgesTest::twelveRows, "pay(-1, -1, -1, 9)", x -> x.pay(-1, -1, -1, 9), Edges.FULL);
        ThreeReels x = Edges.busy();
        for (int row = 2; row < 11; row++) {
            x.pay(5, 5, 5, 1);
        }
        due("the twelfth", x.pay(6, 6, 6, 1), 11);
        due("the thirteenth", x.pay(6, 6, 6, 1), Edges.FULL);
        due("the fourteenth", x.pay(6, 6, 6, 1), Edges.FULL);
        due("rows(11)", x.rows(11), 0);
        due("rows(12)", x.rows(12), Edges.BAD);
    }

    private static void clearAll() {
        due("new: clear()", new ThreeReels().clear(), 0);
        ThreeReels x = twelveRows();
        due("clear() of 12", x.clear(), 12);
        due("clear() again", x.clear(), 0);
        due("THE SUM", x.all(1), 0);
        due("HITS", x.all(2), 0);
        due("rows(0)", x.rows(0), Edges.BAD);
        due("what was SEEN stays", x.coins(6), 3);
        due("LINES stay", x.lines(2), 2);
        x.pay(7, 7, 7, 1);
        due("one row again", x.clear(), 1);
    }

    private static void linesWere() {
        ThreeReels x = new ThreeReels();
        due("lines(3)", x.lines(3), 1);
        due("lines(3) again", x.lines(3), 3);
        due("lines(1)", x.lines(1), 3);
        due("lines(2)", x.lines(2), 1);
        due("lines(1) again", x.lines(1), 2);
        EDGES.range(Edges::busy, "lines(?)", 1, 3, (y, v) -> y.lines(v));
    }

    private static void endingBad() {
        EDGES.range(Edges::busy, "ending(?, 0, 0), of 5", 0, 4, (x, v) -> x.ending(v, 0, 0));
        EDGES.range(Edges::busy, "ending(0, ?, 0), of 6", 0, 5, (x, v) -> x.ending(0, v, 0));
        EDGES.range(Edges::busy, "ending(0, 0, ?), of 4", 0, 3, (x, v) -> x.ending(0, 0, v));
        EDGES.range(() -> Edges.reelsOf(20), "ending(19, ?, 19), of 20", 0, 19, (x, v) -> x.ending(19, v, 19));
        EDGES.changesNothing(Edges::busy, "ending(0, 0, 0)", x -> x.ending(0, 0, 0));
    }

    private static void allBad() {
        EDGES.range(Edges::busy, "all(?)", 0, 4, (x, v) -> x.all(v));
        EDGES.range(ThreeReels::new, "new: all(?)", 0, 4, (x, v) -> x.all(v));
        EDGES.changesNothing(Edges::busy, "all(4)", x -> x.all(4));
    }

    private static void rowsOfTheMiddle() {
        ThreeReels x = Edges.reelsOf(20);
        x.pay(-1, -1, -1, 0);
        x.pay(-1, -1, -1, 10000);
        x.lines(3);
        due("all, though it tells 0", x.rows(0), 8000);
        due("never the first", x.rows(1), 0);
        x = Edges.numbered();
        x.pay(3, 3, 3, 1);
        x.pay(3, 3, -1, 1);
        x.pay(3, -1, -1, 1);
        x.pay(7, -1, -1, 1);
        for (int lines = 1; lines <= 3; lines++) {
            x.lines(lines);
            due("row 0, LINES " + lines, x.rows(0), 1);
            due("row 1, LINES " + lines, x.rows(1), 3);
            due("row 2, LINES " + lines, x.rows(2), 12);
            due("row 3, LINES " + lines, x.rows(3), 0);
        }
        x = Edges.uneven();
        x.pay(1, -1, -1, 1);
        x.pay(-1, 1, -1, 1);
        x.pay(-1, -1, 1, 1);
        x.pay(0, 0, 0, 1);
        due("1 on 1 of 4", x.rows(0), 5 * 20);
        due("1 on 1 of 5", x.rows(1), 3 * 20);
        due("1 on 1 of 20", x.rows(2), 3 * 4);
        due("0 on 3, 4 and 19", x.rows(3), 3 * 4 * 19);
    }

    private static void rowsBad() {
        EDGES.refused(ThreeReels::new, "rows(0) of none", x -> x.rows(0), Edges.BAD);
        EDGES.refused(ThreeReels::new, "rows(-1) of none", x -> x.rows(-1), Edges.BAD);
        EDGES.range(Edges::busy, "rows(?) of 2", 0, 1, (x, v) -> x.rows(v));
        EDGES.range(StripsEdgesTest::twelveRows, "rows(?) of 12", 0, 11, (x, v) -> x.rows(v));
        ThreeReels x = twelveRows();
        x.clear();
        x.pay(0, 0, 0, 1);
        due("rows(1) of one after twelve", x.rows(1), Edges.BAD);
    }

    private static void missesBad() {
        EDGES.range(Edges::busy, "misses(?)", 0, 7, (x, v) -> x.misses(v));
        EDGES.refused(Edges::busy, "misses(NONE)", x -> x.misses(-1), Edges.BAD);
        EDGES.changesNothing(Edges::busy, "misses(0)", x -> x.misses(0));
    }

    public static void main(String[] args) {
        EDGES.sentence("1: no PAYS, empty HOPPER and BOX, nothing SEEN", StripsEdgesTest::newIsEmpty);
        EDGES.sentence("1: A new object", StripsEdgesTest::newIsApart);
        EDGES.sentence("2: A REEL has n STOPS (4 .. 20): 1", StripsEdgesTest::reelHasStops);
        EDGES.sentence("2: all with PICTURE 0", StripsEdgesTest::reelIsBlank);
        EDGES.sentence("2: nothing SEEN of any", StripsEdgesTest::reelForgets);
        EDGES.sentence("2: BAD", StripsEdgesTest::reelBad);
        EDGES.sentence("3: The PICTURE of a STOP: what it was", StripsEdgesTest::pictureWas);
        EDGES.sentence("3: BAD", StripsEdgesTest::pictureBad);
        EDGES.sentence("4: What is there", StripsEdgesTest::atIs);
        EDGES.sentence("4: BAD", StripsEdgesTest::atBad);
        EDGES.sentence("5: A COUNT of a PICTURE (0 .. 20): what it was", StripsEdgesTest::countWas);
        EDGES.sentence("5: BAD", StripsEdgesTest::countBad);
        EDGES.sentence("6: LAID EVEN by COUNTS: n", StripsEdgesTest::layAnswers);
        EDGES.sentence("6: (Nothing SEEN of any.)", StripsEdgesTest::layForgets);
        EDGES.sentence("6: NO: COUNTS are together not 4 .. 20", StripsEdgesTest::layNo);
        EDGES.sentence("6: BAD; NO", StripsEdgesTest::layBad);
        EDGES.sentence("7: A row of PAYS: its number", StripsEdgesTest::payNumber);
        EDGES.sentence("7: BAD", StripsEdgesTest::payBad);
        EDGES.sentence("7: BAD; FULL", StripsEdgesTest::payFull);
        EDGES.sentence("8: All PAYS go: how many", StripsEdgesTest::clearAll);
        EDGES.sentence("9: LINES: what they were. BAD", StripsEdgesTest::linesWere);
        EDGES.sentence("10: What an ENDING pays. BAD", StripsEdgesTest::endingBad);
        EDGES.sentence("11: 0 ALL .. 4 PLAYED BEST. BAD", StripsEdgesTest::allBad);
        EDGES.sentence("12: their middle LINE paid by row i", StripsEdgesTest::rowsOfTheMiddle);
        EDGES.sentence("12: BAD", StripsEdgesTest::rowsBad);
        EDGES.sentence("13: NEAR MISSES. BAD", StripsEdgesTest::missesBad);
        EDGES.finish();
    }
}
