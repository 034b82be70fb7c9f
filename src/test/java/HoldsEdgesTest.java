/** The boundary cases of promises 14 to 17, sentence by sentence. */
public final class HoldsEdgesTest {
    private static final Edges EDGES = new Edges();

    private static void due(String call, long got, long want) {
        EDGES.due(call, got, want);
    }

    private static void worthBad() {
        EDGES.range(Edges::busy, "worth(?, 0, 0, 1), of 5", 0, 4, (x, v) -> x.worth(v, 0, 0, 1));
        EDGES.range(Edges::busy, "worth(0, ?, 0, 2), of 6", 0, 5, (x, v) -> x.worth(0, v, 0, 2));
        EDGES.range(Edges::busy, "worth(0, 0, ?, 4), of 4", 0, 3, (x, v) -> x.worth(0, 0, v, 4));
        EDGES.range(Edges::busy, "worth(0, 0, 0, ?)", 0, 7, (x, v) -> x.worth(0, 0, 0, v));
        // a STOP that isn't held is looked at, too
        EDGES.range(Edges::busy, "worth(?, 0, 0, 0), of 5", 0, 4, (x, v) -> x.worth(v, 0, 0, 0));
        EDGES.range(Edges::busy, "worth(0, ?, 0, 0), of 6", 0, 5, (x, v) -> x.worth(0, v, 0, 0));
        EDGES.range(Edges::busy, "worth(0, 0, ?, 0), of 4", 0, 3, (x, v) -> x.worth(0, 0, v, 0));
        EDGES.changesNothing(Edges::busy, "worth(4, 5, 3, 7)", x -> x.worth(4, 5, 3, 7));
    }

    /** All that is asked before a change is told anew after it. */
    private static void worthTellsChanges() {
        ThreeReels x = new ThreeReels();
        due("no PAYS", x.worth(0, 0, 0, 1), 0);
        x.pay(1, -1, -1, 2);
        due("none has it", x.worth(0, 0, 0, 1), 0);
        x.picture(0, 0, 1);
        due("STOP 0 has it", x.worth(0, 0, 0, 1), 2 * 16 * 4);
        due("STOP 3 has it not", x.worth(3, 0, 0, 1), 0);
        x.lines(2);
        due("STOP 1 has it above", x.worth(1, 0, 0, 1), 2 * 16 * 4);
        due("STOP 3 has it not above", x.worth(3, 0, 0, 1), 0);
        x.lines(3);
        due("STOP 3 has it below", x.worth(3, 0, 0, 1), 2 * 16 * 4);
        due("all STOPS", x.worth(2, 0, 0, 0), 2 * 48);
        x.reel(2, 20);
        due("more STOPS", x.worth(0, 0, 19, 1), 2 * 80 * 4);
        x.clear();
        due("cleared", x.worth(0, 0, 0, 1), 0);
    }

    private static void holdBad() {
        EDGES.range(Edges::busy, "hold(?, 0, 0), of 5", 0, 4, (x, v) -> x.hold(v, 0, 0));
        EDGES.range(Edges::busy, "hold(0, ?, 0), of 6", 0, 5, (x, v) -> x.hold(0, v, 0));
        EDGES.range(Edges::busy, "hold(0, 0, ?), of 4", 0, 3, (x, v) -> x.hold(0, 0, v));
        EDGES.range(() -> Edges.reelsOf(20), "hold(19, 19, ?), of 20", 0, 19, (x, v) -> x.hold(19, 19, v));
        EDGES.changesNothing(Edges::busy, "hold(4, 5, 3)", x -> x.hold(4, 5, 3));
    }

    private static void holdOfLikeSizes() {
        ThreeReels x = new ThreeReels();
        x.reel(0, 20);
        x.picture(0, 19, 1);
        x.picture(1, 3, 1);
        x.picture(2, 3, 1);
        x.pay(1, 1, 1, 10);
        int[][] stops = {{0, 0, 0}, {19, 0, 0}, {0, 3, 0}, {19, 3, 0}, {0, 0, 3}, {19, 0, 3}, {0, 3, 3}, {19, 3, 3}};
        for (int held = 0; held < 8; held++) {
            int[] s = stops[held];
            due("bits of REELS that have it", x.hold(s[0], s[1], s[2]), held);
        }
    }

    private static void nudgeTells() {
        ThreeReels x = new ThreeReels();
        due("what = 0 without PAYS", x.nudge(0, 0, 0, 6, 0), 0);
        due("what = 1 without PAYS", x.nudge(0, 0, 0, 6, 1), 0);
        x = Edges.reelsOf(20);
        x.picture(0, 6, 1);
        x.pay(1, -1, -1, 10000);
        due("the greatest d0", x.nudge(0, 0, 0, 6, 1), 600);
        x = Edges.reelsOf(20);
        x.lines(3);
        x.pay(-1, -1, -1, 10000);
        due("the greatest pay", x.nudge(19, 19, 19, 6, 0), 30000);
    }

    private static void nudgeBad() {
        EDGES.range(Edges::busy, "nudge(?, 0, 0, 1, 0), of 5", 0, 4, (x, v) -> x.nudge(v, 0, 0, 1, 0));
        EDGES.range(Edges::busy, "nudge(0, ?, 0, 1, 0), of 6", 0, 5, (x, v) -> x.nudge(0, v, 0, 1, 0));
        EDGES.range(Edges::busy, "nudge(0, 0, ?, 1, 0), of 4", 0, 3, (x, v) -> x.nudge(0, 0, v, 1, 0));
        EDGES.range(Edges::busy, "nudge(4, 5, 3, ?, 0)", 0, 6, (x, v) -> x.nudge(4, 5, 3, v, 0));
        EDGES.range(Edges::busy, "nudge(4, 5, 3, ?, 1)", 0, 6, (x, v) -> x.nudge(4, 5, 3, v, 1));
        EDGES.range(Edges::busy, "nudge(0, 0, 0, 6, ?)", 0, 1, (x, v) -> x.nudge(0, 0, 0, 6, v));
        EDGES.changesNothing(Edges::busy, "nudge(4, 5, 3, 6, 1)", x -> x.nudge(4, 5, 3, 6, 1));
    }

    private static void changeAnswers() {
        ThreeReels x = Edges.reelsOf(20);
        x.pay(-1, 7, -1, 20);
        for (int stop = 0; stop < 20; stop++) {
            due("STOP " + stop + " and 7", x.change(1, 1000 * (stop + 1), 1000 * (stop + 1)), 10 * stop + 7);
            due("what there is stays", x.at(1, stop), 0);
            x.picture(1, stop, 7);
        }
        due("NONE: none", x.change(1, 20001, 10000000), Edges.NONE);
    }

    private static void changeOfUneven() {
        ThreeReels x = new ThreeReels();
        x.reel(1, 5);
        x.reel(2, 20);
        x.pay(1, 2, 3, 400);
        x.picture(0, 2, 1);
        x.picture(0, 3, 1);
        x.picture(1, 4, 2);
        x.picture(2, 0, 3);
        x.picture(2, 1, 3);
        x.picture(2, 19, 3);
        due("2, 1 and 3 of 400", x.all(3), 6000);
        due("one 1 more", x.change(0, 9000, 9000), 1);
        due("one 1 less", x.change(0, 3000, 3000), 20);
        due("as many 1", x.change(0, 6000, 6000), 2);
        due("one 2 more", x.change(1, 12000, 12000), 2);
        due("one 2 less", x.change(1, 0, 0), 40);
        due("as many 2", x.change(1, 6000, 6000), 1);
        due("one 3 more", x.change(2, 8000, 8000), 23);
        due("one 3 less", x.change(2, 4000, 4000), 0);
        due("as many 3", x.change(2, 6000, 6000), 21);
    }

    private static void changeBad() {
        EDGES.range(Edges::busy, "change(?, 0, 10000000)", 0, 2, (x, v) -> x.change(v, 0, 10000000));
        EDGES.range(Edges::busy, "change(0, ?, 10000000)", 0, 10000000, (x, v) -> x.change(0, v, 10000000));
        EDGES.range(Edges::busy, "change(0, 0, ?)", 0, 10000000, (x, v) -> x.change(0, 0, v));
        EDGES.range(Edges::busy, "change(2, ?, ?)", 0, 10000000, (x, v) -> x.change(2, v, v));
        EDGES.range(Edges::busy, "change(1, 500, ?)", 500, 10000000, (x, v) -> x.change(1, 500, v));
        EDGES.range(Edges::busy, "change(1, ?, 500)", 0, 500, (x, v) -> x.change(1, v, 500));
        EDGES.refused(Edges::busy, "change(0, 1, 0): lo above hi", x -> x.change(0, 1, 0), Edges.BAD);
        EDGES.refused(Edges::busy, "change(0, 10000000, 9999999): lo above hi",
            x -> x.change(0, 10000000, 9999999), Edges.BAD);
        EDGES.refused(Edges::busy, "change(0, -2, -1)", x -> x.change(0, -2, -1), Edges.BAD);
        EDGES.refused(Edges::busy, "change(3, 2, 1)", x -> x.change(3, 2, 1), Edges.BAD);
    }

    public static void main(String[] args) {
        EDGES.sentence("14: WORTH of a HOLD at an ENDING. BAD", HoldsEdgesTest::worthBad);
        EDGES.sentence("14: WORTH of a HOLD at an ENDING", HoldsEdgesTest::worthTellsChanges);
        EDGES.sentence("15: THE BEST HOLD", HoldsEdgesTest::holdOfLikeSizes);
        EDGES.sentence("15: BAD", HoldsEdgesTest::holdBad);
        EDGES.sentence("16: what it pays (what = 0), 100 d0 and 10 d1 and d2 (1)", HoldsEdgesTest::nudgeTells);
        EDGES.sentence("16: BAD", HoldsEdgesTest::nudgeBad);
        EDGES.sentence("17: 10 times the STOP and the PICTURE (what there is stays). NONE: none", HoldsEdgesTest::changeAnswers);
        EDGES.sentence("17: CHANGED, of REELS of 4, 5 and 20 STOPS", HoldsEdgesTest::changeOfUneven);
        EDGES.sentence("17: BAD: lo, hi 0 .. 10000000, lo above hi", HoldsEdgesTest::changeBad);
        EDGES.finish();
    }
}
