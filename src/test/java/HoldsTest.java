/** Promises 14 to 17: holds, nudges, changes. */
public final class HoldsTest {
    private static final int BIG = Integer.MAX_VALUE;
    private static final int SMALL = Integer.MIN_VALUE;
    private static final Checks CHECKS = new Checks();

    private static void due(String call, long got, long want) {
        CHECKS.due(call, got, want);
    }

    /** 1 at stop 1 of reel 0 (4 stops), stop 2 of reel 1 (5), stop 3 of reel 2 (6); 1 1 1 pays 10. */
    private static ThreeReels odd() {
        ThreeReels x = new ThreeReels();
        x.reel(1, 5);
        x.reel(2, 6);
        x.picture(0, 1, 1);
        x.picture(1, 2, 1);
        x.picture(2, 3, 1);
        x.pay(1, 1, 1, 10);
        return x;
    }

    private static void worth() {
        ThreeReels x = odd();
        long[] factors = {1, 4, 5, 20, 6, 24, 30, 120};
        for (int held = 0; held < 8; held++) {
            due("worth(1, 2, 3, " + held + ")", x.worth(1, 2, 3, held), 10 * factors[held]);
        }
        for (int held = 0; held < 8; held++) {
            boolean free = (held & 1) == 0;
            due("worth(0, 2, 3, " + held + ")", x.worth(0, 2, 3, held), free ? 10 * factors[held] : 0);
        }
        x.lines(2);
        due("worth of two lines", x.worth(1, 2, 3, 0), 20);
        due("worth of two lines, reel 0 held at the line above", x.worth(2, 0, 0, 1), 40);
        x.lines(1);
        x.picture(0, 0, 1);
        due("worth after a picture", x.worth(0, 2, 3, 7), 1200);
        due("worth(4, 0, 0, 0)", x.worth(4, 0, 0, 0), -2);
        due("worth(0, 5, 0, 0)", x.worth(0, 5, 0, 0), -2);
        due("worth(0, 0, 6, 0)", x.worth(0, 0, 6, 0), -2);
        due("worth(-1, 0, 0, 0)", x.worth(-1, 0, 0, 0), -2);
        due("worth(0, 0, 0, 8)", x.worth(0, 0, 0, 8), -2);
        due("worth(0, 0, 0, -1)", x.worth(0, 0, 0, -1), -2);
        due("worth(BIG, BIG, BIG, BIG)", x.worth(BIG, BIG, BIG, BIG), -2);
        due("worth(0, 0, 0, SMALL)", x.worth(0, 0, 0, SMALL), -2);
    }

    private static void hold() {
        ThreeReels x = odd();
        due("hold(1, 2, 3)", x.hold(1, 2, 3), 7);
        due("hold(1, 2, 0)", x.hold(1, 2, 0), 3);
        due("hold(1, 0, 3)", x.hold(1, 0, 3), 5);
        due("hold(0, 2, 3)", x.hold(0, 2, 3), 6);
        due("hold(1, 0, 0)", x.hold(1, 0, 0), 1);
        due("hold(0, 2, 0)", x.hold(0, 2, 0), 2);
        due("hold(0, 0, 3)", x.hold(0, 0, 3), 4);
        due("hold(0, 0, 0)", x.hold(0, 0, 0), 0);
        // the third reel is of no matter: holding it is worth as much, the lesser number stays
        x.clear();
        x.pay(1, 1, -1, 10);
        due("hold(1, 2, 3), of like ones", x.hold(1, 2, 3), 3);
        x.clear();
        due("hold(1, 2, 3), nothing pays", x.hold(1, 2, 3), 0);
        due("hold(4, 0, 0)", x.hold(4, 0, 0), -2);
        due("hold(0, 5, 0)", x.hold(0, 5, 0), -2);
        due("hold(0, 0, 6)", x.hold(0, 0, 6), -2);
        due("hold(0, -1, 0)", x.hold(0, -1, 0), -2);
        due("hold(SMALL, BIG, 0)", x.hold(SMALL, BIG, 0), -2);
    }

    private static void nudge() {
        ThreeReels x = odd();
        due("nudge(0, 1, 2, 3, 0)", x.nudge(0, 1, 2, 3, 0), 10);
        due("nudge(0, 1, 2, 3, 1)", x.nudge(0, 1, 2, 3, 1), 111);
        due("nudge(0, 1, 2, 2, 0)", x.nudge(0, 1, 2, 2, 0), 0);
        due("nudge(0, 1, 2, 2, 1)", x.nudge(0, 1, 2, 2, 1), 0);
        due("nudge(1, 2, 3, 0, 0)", x.nudge(1, 2, 3, 0, 0), 10);
        due("nudge(1, 2, 3, 6, 1)", x.nudge(1, 2, 3, 6, 1), 0);
        due("round: nudge(2, 3, 3, 6, 0)", x.nudge(2, 3, 3, 6, 0), 0);
        due("round: nudge(2, 4, 3, 6, 1)", x.nudge(2, 4, 3, 6, 1), 330);
        due("round: nudge(1, 2, 5, 4, 1)", x.nudge(1, 2, 5, 4, 1), 4);
        // like pays: fewer steps first, then the least d0, then the least d1
        x.clear();
        x.pay(1, 0, 0, 5);
        x.pay(0, 1, 0, 5);
        x.pay(0, 0, 1, 5);
        due("of like ones the least d0", x.nudge(0, 1, 2, 6, 1), 1);
        due("of like ones fewer", x.nudge(0, 0, 1, 6, 1), 100);
        due("then the least d1", x.nudge(2, 1, 2, 6, 1), 1);
        x.clear();
        x.pay(0, 1, 0, 5);
        x.pay(1, 0, 0, 5);
        due("d1 ahead of d0", x.nudge(0, 1, 4, 6, 1), 10);
        x.lines(2);
        due("all lines count", x.nudge(1, 2, 4, 0, 0), 0);
        due("the line above counts", x.nudge(2, 1, 0, 0, 0), 5);
        due("nudge(4, 0, 0, 0, 0)", x.nudge(4, 0, 0, 0, 0), -2);
        due("nudge(0, 5, 0, 0, 0)", x.nudge(0, 5, 0, 0, 0), -2);
        due("nudge(0, 0, 6, 0, 0)", x.nudge(0, 0, 6, 0, 0), -2);
        due("nudge(0, 0, -1, 0, 0)", x.nudge(0, 0, -1, 0, 0), -2);
        due("nudge(0, 0, 0, 7, 0)", x.nudge(0, 0, 0, 7, 0), -2);
        due("nudge(0, 0, 0, -1, 0)", x.nudge(0, 0, 0, -1, 0), -2);
        due("nudge(0, 0, 0, 0, 2)", x.nudge(0, 0, 0, 0, 2), -2);
        due("nudge(0, 0, 0, 0, -1)", x.nudge(0, 0, 0, 0, -1), -2);
        due("nudge(BIG, BIG, BIG, BIG, BIG)", x.nudge(BIG, BIG, BIG, BIG, BIG), -2);
    }

    private static void change() {
        ThreeReels x = new ThreeReels();
        x.pay(1, 0, 0, 8);
        x.pay(2, 0, -1, 16);
        // reel 0: one 1 gives 8 / 4 = 2 back, one 2 gives 4
        long before = x.digest();
        due("change(0, 2000, 2000)", x.change(0, 2000, 2000), 1);
        due("change(0, 4000, 4000)", x.change(0, 4000, 4000), 2);
        due("change(0, 1, 10000000)", x.change(0, 1, 10000000), 1);
        due("change(0, 2001, 10000000)", x.change(0, 2001, 10000000), 2);
        due("change(0, 0, 0): 3 changes nothing that comes back", x.change(0, 0, 0), 3);
        due("change(0, 4001, 10000000)", x.change(0, 4001, 10000000), -1);
        due("change(1, 1, 10000000)", x.change(1, 1, 10000000), -1);
        due("change(1, 0, 0)", x.change(1, 0, 0), 1);
        due("what there is stays", x.digest(), before);
        x.picture(0, 0, 1);
        // unlike that which is there: at stop 0 0 is a change, 1 is none
        due("change(0, 0, 0) from 1 to 0", x.change(0, 0, 0), 0);
        due("change(0, 2000, 2000): nothing at stop 0 keeps it, stop 1 does by 3", x.change(0, 2000, 2000), 13);
        due("change(0, 4000, 4000)", x.change(0, 4000, 4000), 2);
        due("change(0, 6000, 6000)", x.change(0, 6000, 6000), 12);
        // on reel 2 row 0 alone looks: 3 of 4 stops come back with 1500
        due("change(2, 1500, 1500)", x.change(2, 1500, 1500), 1);
        x.lines(3);
        due("LINES fall out", x.change(0, 6000, 6000), 12);
        x.reel(1, 20);
        x.picture(1, 19, 5);
        due("the last stop", x.change(1, 2000, 2000), 190);
        x.clear();
        x.pay(1, 1, 1, 1);
        x.picture(1, 19, 0);
        x.reel(2, 7);
        x.picture(2, 0, 1);
        // 1 of 4 * 20 * 7 endings: 1.78 thousandths, cut
        due("BACK is cut", x.change(1, 1, 1), 1);
        due("BACK is cut, not above", x.change(1, 2, 2), -1);
        before = x.digest();
        CHECKS.refused(x, "change(3, 0, 0)", before, x.change(3, 0, 0), -2);
        CHECKS.refused(x, "change(-1, 0, 0)", before, x.change(-1, 0, 0), -2);
        CHECKS.refused(x, "change(0, -1, 0)", before, x.change(0, -1, 0), -2);
        CHECKS.refused(x, "change(0, 0, -1)", before, x.change(0, 0, -1), -2);
        CHECKS.refused(x, "change(0, 0, 10000001)", before, x.change(0, 0, 10000001), -2);
        CHECKS.refused(x, "change(0, 10000001, 10000001)", before, x.change(0, 10000001, 10000001), -2);
        CHECKS.refused(x, "change(0, 2, 1)", before, x.change(0, 2, 1), -2);
        CHECKS.refused(x, "change(BIG, SMALL, BIG)", before, x.change(BIG, SMALL, BIG), -2);
        due("change(0, 10000000, 10000000)", x.change(0, 10000000, 10000000), -1);
    }

    /** Reels of 4, 5 and 6 stops, and one row that asks for another picture on each. */
    private static void changeOfUneven() {
        ThreeReels x = new ThreeReels();
        x.reel(1, 5);
        x.reel(2, 6);
        x.pay(1, 2, 3, 120);
        x.picture(0, 2, 1);
        x.picture(0, 3, 1);
        x.picture(1, 0, 2);
        x.picture(2, 1, 3);
        x.picture(2, 3, 3);
        x.picture(2, 5, 3);
        // 2 * 1 * 3 of 120 endings pay 120
        due("uneven: all(3)", x.all(3), 6000);
        due("uneven: one 1 more", x.change(0, 9000, 9000), 1);
        due("uneven: one 1 less", x.change(0, 3000, 3000), 20);
        due("uneven: as many on reel 0", x.change(0, 6000, 6000), 2);
        due("uneven: one 2 more", x.change(1, 12000, 12000), 12);
        due("uneven: one 2 less", x.change(1, 0, 5999), 0);
        due("uneven: as many on reel 1", x.change(1, 6000, 6000), 11);
        due("uneven: one 3 more", x.change(2, 8000, 8000), 3);
        due("uneven: one 3 less", x.change(2, 4000, 4000), 10);
        due("uneven: as many on reel 2", x.change(2, 6000, 6000), 1);
        due("uneven: two 1 more", x.change(0, 12000, 12000), -1);
        x.clear();
        x.pay(1, -1, -1, 8);
        for (int stop = 0; stop < 4; stop++) {
            x.picture(0, stop, 1);
        }
        due("no stop behind the last", x.change(0, 10000, 10000), -1);
    }

    public static void main(String[] args) {
        worth();
        hold();
        nudge();
        change();
        changeOfUneven();
        CHECKS.finish();
    }
}
