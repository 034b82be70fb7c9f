/** The boundary cases that the section "Terms" names, sentence by sentence; coins are in CoinTermsEdgesTest. */
public final class TermsEdgesTest {
    private static final Edges EDGES = new Edges();

    private static void due(String call, long got, long want) {
        EDGES.due(call, got, want);
    }

    private static void reelsAreThree() {
        EDGES.range(Edges::busy, "reel(?, 4)", 0, 2, (x, v) -> x.reel(v, 4));
        EDGES.range(Edges::busy, "picture(?, 0, 5)", 0, 2, (x, v) -> x.picture(v, 0, 5));
        EDGES.range(Edges::busy, "at(?, 0)", 0, 2, (x, v) -> x.at(v, 0));
        EDGES.range(Edges::busy, "lay(?)", 0, 2, (x, v) -> x.lay(v));
        EDGES.range(Edges::busy, "change(?, 0, 9)", 0, 2, (x, v) -> x.change(v, 0, 9));
        EDGES.range(Edges::busy, "favoured(?)", 0, 2, (x, v) -> x.favoured(v));
        EDGES.range(Edges::busy, "odd(?)", 0, 2, (x, v) -> x.odd(v));
    }

    private static void stopsAtFirst() {
        ThreeReels x = new ThreeReels();
        for (int reel = 0; reel < 3; reel++) {
            due("new: at(" + reel + ", 3)", x.at(reel, 3), 0);
            due("new: at(" + reel + ", 4)", x.at(reel, 4), Edges.BAD);
        }
        due("new: all(0)", x.all(0), 64);
    }

    private static void picturesAreEight() {
        ThreeReels x = new ThreeReels();
        for (int reel = 0; reel < 3; reel++) {
            for (int stop = 0; stop < 4; stop++) {
                due("new: at(" + reel + ", " + stop + ")", x.at(reel, stop), 0);
                due("to 7", x.picture(reel, stop, 7), 0);
                due("to 0", x.picture(reel, stop, 0), 7);
                due("is 0", x.at(reel, stop), 0);
            }
        }
        EDGES.range(Edges::busy, "picture(0, 0, ?)", 0, 7, (y, v) -> y.picture(0, 0, v));
    }

    private static int endingOf(ThreeReels x, int reel, int stop) {
        return x.ending(reel == 0 ? stop : 1, reel == 1 ? stop : 1, reel == 2 ? stop : 1);
    }

    /** 6 (pays 10) at STOP 0 and 5 (pays 1) at the last STOP of one REEL; what each LINES pay near them. */
    private static void round(int reel, int n) {
        ThreeReels x = new ThreeReels();
        x.reel(reel, n);
        x.picture(reel, 0, 6);
        x.picture(reel, n - 1, 5);
        x.pay(reel == 0 ? 6 : -1, reel == 1 ? 6 : -1, reel == 2 ? 6 : -1, 10);
        x.pay(reel == 0 ? 5 : -1, reel == 1 ? 5 : -1, reel == 2 ? 5 : -1, 1);
        int[] stops = {0, 1, n - 2, n - 1};
        int[][] pays = {{10, 0, 0, 1}, {11, 10, 0, 1}, {11, 10, 1, 11}};
        for (int lines = 1; lines <= 3; lines++) {
            x.lines(lines);
            for (int i = 0; i < 4; i++) {
                due("REEL " + reel + " of " + n + ", LINES " + lines + ", STOP " + stops[i],
                    endingOf(x, reel, stops[i]), pays[lines - 1][i]);
            }
        }
    }

    private static void eachReelGoesRound() {
        for (int reel = 0; reel < 3; reel++) {
            for (int n = 4; n <= 20; n++) {
                round(reel, n);
            }
        }
    }

    private static void reelsGoRoundByThemselves() {
        ThreeReels x = new ThreeReels();
        x.reel(1, 5);
        x.reel(2, 20);
        x.picture(0, 3, 1);
        x.picture(1, 4, 2);
        x.picture(2, 19, 3);
        x.pay(1, 2, 3, 7);
        x.lines(2);
        due("above STOPS 0 are the last of 4, 5 and 20", x.ending(0, 0, 0), 7);
        due("STOP 4 of REEL 2 is not below its last", x.ending(0, 0, 4), 0);
        x.lines(3);
        due("below the last but one of each", x.ending(2, 3, 18), 7);
        x.reel(2, 4);
        x.picture(2, 0, 3);
        x.picture(0, 0, 1);
        x.picture(1, 0, 2);
        x.picture(0, 3, 0);
        x.picture(1, 4, 0);
        due("below the last STOPS are STOPS 0", x.ending(3, 4, 3), 7);
        due("STOP 3 of REEL 1 has STOP 4 below", x.ending(3, 3, 3), 0);
    }

    private static void twelvePaysAtMost() {
        ThreeReels x = new ThreeReels();
        for (int row = 0; row < 12; row++) {
            due("row " + row, x.pay(7, 7, 7, row), row);
        }
        due("a thirteenth", x.pay(7, 7, 7, 12), Edges.FULL);
        due("twelve are there", x.clear(), 12);
    }

    private static void firstThatFits() {
        ThreeReels x = new ThreeReels();
        due("no PAYS", x.ending(0, 0, 0), 0);
        x.pay(1, 0, 0, 3);
        x.pay(0, 1, 0, 3);
        x.pay(0, 0, 1, 3);
        due("each row fits but for one PICTURE", x.ending(0, 0, 0), 0);
        for (int row = 3; row < 11; row++) {
            x.pay(7, -1, -1, 3);
        }
        x.pay(0, 0, 0, 44);
        due("the twelfth row alone fits", x.ending(0, 0, 0), 44);
        x.picture(0, 0, 1);
        due("the first row fits", x.ending(0, 0, 0), 3);
        x.clear();
        x.pay(-1, -1, -1, 0);
        x.pay(1, 0, 0, 9);
        due("a first row that tells 0", x.ending(0, 0, 0), 0);
        x.clear();
        x.pay(1, 0, 0, 9);
        x.pay(-1, -1, -1, 0);
        due("the other way round", x.ending(0, 0, 0), 9);
        due("else the second", x.ending(1, 0, 0), 0);
        x.clear();
        due("cleared", x.ending(0, 0, 0), 0);
    }

    private static void noneIsAnyOne() {
        ThreeReels x = numberedWith(-1, -1, -1);
        for (int a = 0; a < 4; a++) {
            due("any three", x.ending(a, 3 - a, a), 5);
        }
        x = numberedWith(2, -1, -1);
        due("2 and any two", x.ending(2, 0, 3), 5);
        due("not 2", x.ending(1, 2, 2), 0);
        x = numberedWith(-1, 2, -1);
        due("any, 2, any", x.ending(0, 2, 3), 5);
        due("not 2 in the middle", x.ending(2, 1, 2), 0);
        x = numberedWith(-1, -1, 2);
        due("any two and 2", x.ending(0, 3, 2), 5);
        due("not 2 behind", x.ending(2, 2, 1), 0);
        x = numberedWith(0, 3, 0);
        due("PICTURE 0 is no any one", x.ending(1, 3, 0), 0);
        due("PICTURE 0", x.ending(0, 3, 0), 5);
    }

    private static ThreeReels numberedWith(int a, int b, int c) {
        ThreeReels x = Edges.numbered();
        x.pay(a, b, c, 5);
        return x;
    }

    private static void linesThatCount() {
        ThreeReels x = Edges.numbered();
        x.pay(0, 0, 0, 1);
        x.pay(1, 1, 1, 20);
        x.pay(2, 2, 2, 300);
        due("at first the middle", x.ending(1, 1, 1), 20);
        due("LINES were 1", x.lines(2), 1);
        due("that above, too", x.ending(1, 1, 1), 21);
        due("LINES were 2", x.lines(3), 2);
        due("that below, too", x.ending(1, 1, 1), 321);
        due("LINES were 3", x.lines(1), 3);
        due("the middle again", x.ending(1, 1, 1), 20);
    }

    private static void sumOverLines() {
        ThreeReels x = new ThreeReels();
        x.lines(3);
        due("the least", x.ending(0, 0, 0), 0);
        x.pay(-1, -1, -1, 10000);
        due("the greatest", x.ending(3, 3, 3), 30000);
        x.lines(2);
        due("of two", x.ending(0, 3, 0), 20000);
    }

    private static void allTogether() {
        due("ALL, the least", new ThreeReels().all(0), 64);
        due("ALL, the greatest", Edges.reelsOf(20).all(0), 8000);
        ThreeReels x = new ThreeReels();
        x.reel(0, 20);
        x.reel(2, 5);
        due("ALL of 20, 4 and 5", x.all(0), 400);
        due("THE SUM, the least", x.all(1), 0);
        x = Edges.reelsOf(20);
        x.lines(3);
        x.pay(-1, -1, -1, 10000);
        due("THE SUM, the greatest", x.all(1), 240000000);
    }

    private static void hits() {
        ThreeReels x = new ThreeReels();
        due("HITS without PAYS", x.all(2), 0);
        x.pay(-1, -1, -1, 0);
        due("HITS where every row tells 0", x.all(2), 0);
        due("though the row fits", x.rows(0), 64);
        x.clear();
        x.pay(-1, -1, -1, 1);
        x.lines(3);
        due("HITS are ENDINGS, not LINES", x.all(2), 64);
        x.clear();
        x.picture(0, 0, 1);
        x.pay(1, -1, -1, 1);
        due("HITS above, in the middle, below", x.all(2), 48);
        x.lines(2);
        due("HITS above and in the middle", x.all(2), 32);
        x.lines(1);
        due("HITS in the middle", x.all(2), 16);
    }

    private static long backOf(int n, int pays) {
        ThreeReels x = Edges.reelsOf(n);
        x.picture(0, 0, 1);
        x.picture(1, 0, 1);
        x.picture(2, 0, 1);
        x.pay(1, 1, 1, pays);
        return x.all(3);
    }

    private static void backIsCut() {
        due("BACK without PAYS", new ThreeReels().all(3), 0);
        due("1 by 8000: 0.125", backOf(20, 1), 0);
        due("7 by 8000: 0.875", backOf(20, 7), 0);
        due("8 by 8000: 1", backOf(20, 8), 1);
        due("15 by 8000: 1.875", backOf(20, 15), 1);
        due("16 by 8000: 2", backOf(20, 16), 2);
        due("1 by 64: 15.625", backOf(4, 1), 15);
        due("10000 by 64", backOf(4, 10000), 156250);
        ThreeReels x = Edges.reelsOf(20);
        x.pay(-1, -1, -1, 10000);
        for (int lines = 1; lines <= 3; lines++) {
            x.lines(lines);
            due("BACK, the greatest, of LINES " + lines, x.all(3), 10000000);
        }
        x = new ThreeReels();
        x.picture(0, 0, 1);
        x.picture(1, 0, 1);
        x.picture(2, 0, 1);
        x.pay(1, 1, 1, 1);
        for (int lines = 1; lines <= 3; lines++) {
            x.lines(lines);
            due("BACK cut of LINES " + lines, x.all(3), 15);
        }
    }

    /** REELS of 4, PICTURE 3 at STOP 0 of REELS 1 and 2, and at some STOPS of REEL 0. */
    private static ThreeReels threes(int... stops) {
        ThreeReels x = new ThreeReels();
        x.picture(1, 0, 3);
        x.picture(2, 0, 3);
        for (int stop : stops) {
            x.picture(0, stop, 3);
        }
        return x;
    }

    private static void nearMisses() {
        due("none of it on a REEL", threes().misses(3), 0);
        due("at STOP 0: the last and STOP 1 are near", threes(0).misses(3), 2 + 2 + 2);
        due("at STOP 1", threes(1).misses(3), 2 + 2 + 2);
        due("at the last: STOP 0 and the last but one are near", threes(3).misses(3), 2 + 2 + 2);
        due("side by side round the end", threes(0, 3).misses(3), 2 + 2 * 2 + 2 * 2);
        due("above and below at once count once", threes(0, 2).misses(3), 2 + 2 * 2 + 2 * 2);
        due("three of four", threes(0, 1, 2).misses(3), 1 + 2 * 3 + 2 * 3);
        due("on all STOPS of a REEL: it is never the third", threes(0, 1, 2, 3).misses(3), 2 * 4 + 2 * 4);
        due("all three in the middle always", new ThreeReels().misses(0), 0);
        due("nowhere", new ThreeReels().misses(7), 0);
        ThreeReels x = Edges.reelsOf(20);
        for (int reel = 0; reel < 3; reel++) {
            for (int stop = 1; stop < 20; stop += 2) {
                x.picture(reel, stop, 7);
            }
        }
        due("every other STOP of 20", x.misses(7), 3000);
        due("and the others", x.misses(0), 3000);
        x = new ThreeReels();
        x.reel(2, 20);
        x.picture(0, 1, 4);
        x.picture(1, 1, 4);
        x.picture(2, 19, 4);
        due("the last of 20: STOPS 0 and 18 are near", x.misses(4), 6);
        x.picture(2, 19, 0);
        x.picture(2, 0, 4);
        due("STOP 0 of 20: STOPS 1 and 19 are near", x.misses(4), 6);
        x.picture(2, 1, 4);
        x.picture(2, 19, 4);
        due("three side by side round the end: STOPS 2 and 18", x.misses(4), 2 + 2 * 3 + 2 * 3);
        x = Edges.uneven();
        due("the last of 4, 5 and 20", x.misses(1), 2 + 2 + 2);
        x.picture(1, 0, 1);
        x.picture(2, 1, 1);
        // near it are 2 STOPS of REEL 0, 2 of REEL 1 (1 and 3), 3 of REEL 2 (STOP 0, between two, once)
        due("two round the ends", x.misses(1), 2 * 2 * 2 + 2 * 1 * 2 + 3 * 1 * 2);
        due("0 of 3, 3 and 18", x.misses(0), 1 * 3 * 18 + 2 * 3 * 18 + 2 * 3 * 3);
    }

    private static void worthOfHolds() {
        ThreeReels x = new ThreeReels();
        x.reel(1, 5);
        x.reel(2, 20);
        x.pay(-1, -1, -1, 3);
        for (int held = 0; held < 8; held++) {
            due("where all pay alike, held " + held, x.worth(3, 4, 19, held), 1200);
        }
        x.clear();
        due("nothing held, nothing paid", x.worth(0, 0, 0, 0), 0);
        due("all held, nothing paid", x.worth(0, 0, 0, 7), 0);
        x.picture(0, 3, 1);
        x.picture(1, 4, 1);
        x.picture(2, 19, 1);
        x.pay(1, 1, 1, 10000);
        long[] stops = {1, 4, 5, 20, 20, 80, 100, 400};
        for (int held = 0; held < 8; held++) {
            due("the last STOPS, held " + held, x.worth(3, 4, 19, held), 10000 * stops[held]);
        }
        for (int held = 0; held < 8; held++) {
            due("STOPS 0, held " + held, x.worth(0, 0, 0, held), held == 0 ? 10000 : 0);
        }
        x = Edges.reelsOf(20);
        x.lines(3);
        x.pay(-1, -1, -1, 10000);
        due("the greatest, nothing held", x.worth(0, 0, 0, 0), 240000000);
        due("the greatest, all held", x.worth(19, 19, 19, 7), 240000000);
    }

    private static void bestHoldOfLikeOnes() {
        ThreeReels x = new ThreeReels();
        due("nothing pays: all sets are alike", x.hold(0, 0, 0), 0);
        x.pay(-1, -1, -1, 8);
        due("all pay alike", x.hold(3, 3, 3), 0);
        x = Edges.numbered();
        x.pay(3, 3, 3, 8);
        due("also 7: all", x.hold(3, 3, 3), 7);
        x.clear();
        x.pay(3, -1, -1, 8);
        due("1 is like 3, 5 and 7", x.hold(3, 3, 3), 1);
        x.clear();
        x.pay(-1, 3, -1, 8);
        due("2 is like 3, 6 and 7", x.hold(3, 3, 3), 2);
        x.clear();
        x.pay(3, 3, -1, 8);
        due("3 is like 7", x.hold(3, 3, 3), 3);
        x.clear();
        x.pay(-1, -1, 3, 8);
        due("4 is like 5, 6 and 7", x.hold(3, 3, 3), 4);
        x.clear();
        x.pay(3, -1, 3, 8);
        due("5 is like 7", x.hold(3, 3, 3), 5);
        x.clear();
        x.pay(-1, 3, 3, 8);
        due("6 is like 7", x.hold(3, 3, 3), 6);
        x.clear();
        x.pay(3, -1, -1, 8);
        x.pay(-1, 3, -1, 8);
        x.pay(-1, -1, 3, 8);
        due("1 is like 2 and 4", x.hold(3, 3, 3), 1);
        due("2 is like 4", x.hold(0, 3, 3), 2);
        due("4 alone", x.hold(0, 0, 3), 4);
        due("none of them", x.hold(0, 0, 0), 0);
    }

    private static void playedBest() {
        ThreeReels x = new ThreeReels();
        due("without PAYS", x.all(4), 0);
        x.pay(-1, -1, -1, 1);
        due("all pay alike", x.all(4), 64 * 64);
        x = Edges.reelsOf(20);
        x.lines(3);
        x.pay(-1, -1, -1, 10000);
        due("the greatest", x.all(4), 8000L * 8000 * 30000);
        x = Edges.numbered();
        x.pay(3, 3, 3, 1);
        // of 64: one holds all (64), 3 * 3 hold two (16), 3 * 9 hold one (4), 27 hold none (1)
        due("each number held", x.all(4), 64 + 9 * 16 + 27 * 4 + 27);
        x = Edges.uneven();
        x.pay(1, 1, 1, 1);
        due("of 4, 5 and 20 STOPS", x.all(4), 400 + 19 * 20 + 4 * 80 + 3 * 100
            + 4 * 19 * 4 + 3 * 19 * 5 + 3 * 4 * 20 + 3 * 4 * 19);
    }

    public static void main(String[] args) {
        EDGES.sentence("REELS 0 .. 2", TermsEdgesTest::reelsAreThree);
        EDGES.sentence("have n STOPS (.. 4 at first)", TermsEdgesTest::stopsAtFirst);
        EDGES.sentence("with PICTURES 0 .. 7 (0 at first)", TermsEdgesTest::picturesAreEight);
        EDGES.sentence("i in the middle, i - 1 above, i + 1 below (round)", TermsEdgesTest::eachReelGoesRound);
        EDGES.sentence("a REEL shows .. (round)", TermsEdgesTest::reelsGoRoundByThemselves);
        EDGES.sentence("PAYS, 12 at most, as they come", TermsEdgesTest::twelvePaysAtMost);
        EDGES.sentence("PICTURES for three REELS, or NONE (any one)", TermsEdgesTest::noneIsAnyOne);
        EDGES.sentence("pays what the first of PAYS that fits tells, else 0", TermsEdgesTest::firstThatFits);
        EDGES.sentence("LINES 1 .. 3 count (1 at first)", TermsEdgesTest::linesThatCount);
        EDGES.sentence("AN ENDING pays the sum over its LINES", TermsEdgesTest::sumOverLines);
        EDGES.sentence("ALL is how many, THE SUM what they pay together", TermsEdgesTest::allTogether);
        EDGES.sentence("HITS how many pay anything", TermsEdgesTest::hits);
        EDGES.sentence("BACK in thousandths: .. cut", TermsEdgesTest::backIsCut);
        EDGES.sentence("NEAR MISSES of a PICTURE", TermsEdgesTest::nearMisses);
        EDGES.sentence("WORTH .. times the STOPS of REELS held", TermsEdgesTest::worthOfHolds);
        EDGES.sentence("THE BEST HOLD: .. of like ones the least", TermsEdgesTest::bestHoldOfLikeOnes);
        EDGES.sentence("PLAYED BEST", TermsEdgesTest::playedBest);
        EDGES.finish();
    }
}
