/** Promises 1 to 13: a new object, strips, counts, pays, lines, and what all endings pay. */
public final class StripsTest {
    private static final int BIG = Integer.MAX_VALUE;
    private static final int SMALL = Integer.MIN_VALUE;
    private static final Checks CHECKS = new Checks();

    private static void due(String call, long got, long want) {
        CHECKS.due(call, got, want);
    }

    private static void refused(ThreeReels x, String call, long before, long got, long want) {
        CHECKS.refused(x, call, before, got, want);
    }

    /** Three reels of four stops: 1 at stop 1 of reel 0, stop 2 of reel 1, stop 3 of reel 2. */
    private static ThreeReels small() {
        ThreeReels x = new ThreeReels();
        x.picture(0, 1, 1);
        x.picture(1, 2, 1);
        x.picture(2, 3, 1);
        return x;
    }

    private static void newObject() {
        ThreeReels x = new ThreeReels();
        for (int reel = 0; reel < 3; reel++) {
            for (int stop = 0; stop < 4; stop++) {
                due("new: at(" + reel + ", " + stop + ")", x.at(reel, stop), 0);
            }
            due("new: at(" + reel + ", 4)", x.at(reel, 4), -2);
            due("new: favoured(" + reel + ")", x.favoured(reel), -1);
            due("new: odd(" + reel + ")", x.odd(reel), -1);
        }
        int[] coins = {0, 0, 0, 0, 0, 0, 0, 100};
        for (int what = 0; what < 8; what++) {
            due("new: coins(" + what + ")", x.coins(what), coins[what]);
        }
        long[] all = {64, 0, 0, 0, 0};
        for (int what = 0; what < 5; what++) {
            due("new: all(" + what + ")", x.all(what), all[what]);
        }
        for (int p = 0; p < 8; p++) {
            due("new: count(" + p + ", 0)", x.count(p, 0), 0);
        }
        due("new: rows(0)", x.rows(0), -2);
        due("new: clear()", x.clear(), 0);
        due("new: lines(1)", x.lines(1), 1);
        due("new: room(100)", x.room(100), 100);
    }

    private static void reel() {
        ThreeReels x = small();
        due("reel(0, 20)", x.reel(0, 20), 1);
        due("its picture is gone", x.at(0, 1), 0);
        due("its last stop", x.at(0, 19), 0);
        due("behind its last stop", x.at(0, 20), -2);
        due("other reels stay", x.at(1, 2), 1);
        due("all(0)", x.all(0), 20 * 4 * 4);
        x.picture(0, 19, 7);
        due("reel(0, 20) again", x.reel(0, 20), 1);
        due("blank again", x.at(0, 19), 0);
        due("reel(0, 4)", x.reel(0, 4), 1);
        due("shorter", x.at(0, 4), -2);
        x.play(0, 0, 0);
        due("seen", x.coins(6), 1);
        long before = x.digest();
        refused(x, "reel(-1, 5)", before, x.reel(-1, 5), -2);
        refused(x, "reel(3, 5)", before, x.reel(3, 5), -2);
        refused(x, "reel(0, 3)", before, x.reel(0, 3), -2);
        refused(x, "reel(0, 21)", before, x.reel(0, 21), -2);
        refused(x, "reel(BIG, 5)", before, x.reel(BIG, 5), -2);
        refused(x, "reel(0, SMALL)", before, x.reel(0, SMALL), -2);
        due("still seen", x.coins(6), 1);
        due("reel(2, 5)", x.reel(2, 5), 1);
        due("nothing seen of any", x.coins(6), 0);
        due("nothing favoured", x.favoured(0), -1);
        due("coins stay", x.coins(2), 1);
    }

    private static void picture() {
        ThreeReels x = new ThreeReels();
        due("picture(2, 3, 7)", x.picture(2, 3, 7), 0);
        due("picture(2, 3, 4)", x.picture(2, 3, 4), 7);
        due("at(2, 3)", x.at(2, 3), 4);
        due("at(1, 3)", x.at(1, 3), 0);
        x.play(0, 0, 3);
        x.picture(2, 0, 1);
        due("a picture leaves what was seen", x.coins(6), 1);
        long before = x.digest();
        refused(x, "picture(3, 0, 1)", before, x.picture(3, 0, 1), -2);
        refused(x, "picture(-1, 0, 1)", before, x.picture(-1, 0, 1), -2);
        refused(x, "picture(0, 4, 1)", before, x.picture(0, 4, 1), -2);
        refused(x, "picture(0, -1, 1)", before, x.picture(0, -1, 1), -2);
        refused(x, "picture(0, 0, 8)", before, x.picture(0, 0, 8), -2);
        refused(x, "picture(0, 0, -1)", before, x.picture(0, 0, -1), -2);
        refused(x, "picture(BIG, SMALL, BIG)", before, x.picture(BIG, SMALL, BIG), -2);
        due("at(3, 0)", x.at(3, 0), -2);
        due("at(-1, 0)", x.at(-1, 0), -2);
        due("at(0, -1)", x.at(0, -1), -2);
        due("at(BIG, BIG)", x.at(BIG, BIG), -2);
        due("at(0, SMALL)", x.at(0, SMALL), -2);
    }

    private static void counting() {
        ThreeReels x = new ThreeReels();
        due("count(7, 20)", x.count(7, 20), 0);
        due("count(7, 3)", x.count(7, 3), 20);
        due("count(0, 1)", x.count(0, 1), 0);
        long before = x.digest();
        refused(x, "count(8, 1)", before, x.count(8, 1), -2);
        refused(x, "count(-1, 1)", before, x.count(-1, 1), -2);
        refused(x, "count(0, 21)", before, x.count(0, 21), -2);
        refused(x, "count(0, -1)", before, x.count(0, -1), -2);
        refused(x, "count(SMALL, 1)", before, x.count(SMALL, 1), -2);
        due("count(7, 0)", x.count(7, 0), 3);
    }

    private static void laid(ThreeReels x, int reel, int... pictures) {
        for (int stop = 0; stop < pictures.length; stop++) {
            due("laid: at(" + reel + ", " + stop + ")", x.at(reel, stop), pictures[stop]);
        }
        due("laid: behind the last", x.at(reel, pictures.length), -2);
    }

    private static void lay() {
        ThreeReels x = new ThreeReels();
        x.play(0, 0, 0);
        long before = x.digest();
        refused(x, "lay(0) of nothing", before, x.lay(0), -3);
        refused(x, "lay(3) of nothing", before, x.lay(3), -2);
        refused(x, "lay(-1)", before, x.lay(-1), -2);
        x.count(5, 3);
        due("lay(0) of 3", x.lay(0), -3);
        due("still seen", x.coins(6), 1);
        x.count(5, 4);
        due("lay(0) of 4", x.lay(0), 4);
        laid(x, 0, 5, 5, 5, 5);
        due("nothing seen of any", x.coins(6), 0);
        x.count(5, 20);
        due("lay(1) of 20", x.lay(1), 20);
        x.count(0, 1);
        due("lay(1) of 21", x.lay(1), -3);
        due("reel 1 has 20", x.at(1, 19), 5);
        // of like ones the least: 1 and 3 alternate from 1 on
        x.count(5, 0);
        x.count(0, 0);
        x.count(1, 2);
        x.count(3, 2);
        due("lay(2) of 2 and 2", x.lay(2), 4);
        laid(x, 2, 1, 3, 1, 3);
        // 5 of 0, 3 of 1, 2 of 2: dues told by hand
        x.count(3, 0);
        x.count(0, 5);
        x.count(1, 3);
        x.count(2, 2);
        due("lay(2) of 5, 3 and 2", x.lay(2), 10);
        laid(x, 2, 0, 1, 2, 0, 0, 1, 0, 2, 1, 0);
        due("reel 0 stays", x.at(0, 3), 5);
    }

    private static void pay() {
        ThreeReels x = small();
        due("pay row 0", x.pay(1, 1, 1, 50), 0);
        due("pay row 1", x.pay(1, -1, -1, 0), 1);
        due("pay row 2", x.pay(-1, 1, -1, 10000), 2);
        due("the first row", x.ending(1, 2, 3), 50);
        due("a row of 0 fits first, too", x.ending(1, 2, 0), 0);
        due("the third row", x.ending(0, 2, 3), 10000);
        due("no row", x.ending(0, 0, 3), 0);
        long before = x.digest();
        refused(x, "pay(8, 0, 0, 1)", before, x.pay(8, 0, 0, 1), -2);
        refused(x, "pay(0, -2, 0, 1)", before, x.pay(0, -2, 0, 1), -2);
        refused(x, "pay(0, 0, 8, 1)", before, x.pay(0, 0, 8, 1), -2);
        refused(x, "pay(0, 0, 0, -1)", before, x.pay(0, 0, 0, -1), -2);
        refused(x, "pay(0, 0, 0, 10001)", before, x.pay(0, 0, 0, 10001), -2);
        for (int row = 3; row < 12; row++) {
            due("pay row " + row, x.pay(7, 7, 7, row), row);
        }
        before = x.digest();
        refused(x, "a thirteenth row", before, x.pay(0, 0, 0, 1), -4);
        refused(x, "BAD goes ahead of FULL", before, x.pay(0, 0, 0, 10001), -2);
        due("clear()", x.clear(), 12);
        due("nothing pays", x.ending(1, 2, 3), 0);
        due("all(1) after clear", x.all(1), 0);
        due("clear() again", x.clear(), 0);
        due("pay anew", x.pay(-1, -1, -1, 3), 0);
        due("it pays", x.ending(0, 0, 3), 3);
    }

    private static void lines() {
        ThreeReels x = small();
        x.pay(1, 1, 1, 50);
        x.pay(0, 0, 0, 1);
        due("ending(1, 2, 3), middle", x.ending(1, 2, 3), 50);
        due("ending(2, 3, 0), middle", x.ending(2, 3, 0), 1);
        due("ending(0, 1, 2), middle", x.ending(0, 1, 2), 1);
        due("lines(2)", x.lines(2), 1);
        due("ending(2, 3, 0), with above", x.ending(2, 3, 0), 51);
        due("ending(0, 1, 2), with above", x.ending(0, 1, 2), 2);
        due("lines(3)", x.lines(3), 2);
        due("ending(0, 1, 2), with below", x.ending(0, 1, 2), 52);
        due("ending(1, 2, 3), all three", x.ending(1, 2, 3), 52);
        long before = x.digest();
        refused(x, "lines(0)", before, x.lines(0), -2);
        refused(x, "lines(4)", before, x.lines(4), -2);
        refused(x, "lines(SMALL)", before, x.lines(SMALL), -2);
        due("lines(1)", x.lines(1), 3);
        due("ending(4, 0, 0)", x.ending(4, 0, 0), -2);
        due("ending(0, 4, 0)", x.ending(0, 4, 0), -2);
        due("ending(0, 0, 4)", x.ending(0, 0, 4), -2);
        due("ending(-1, 0, 0)", x.ending(-1, 0, 0), -2);
        due("ending(0, BIG, 0)", x.ending(0, BIG, 0), -2);
        due("ending(0, 0, SMALL)", x.ending(0, 0, SMALL), -2);
    }

    private static void all() {
        ThreeReels x = small();
        x.reel(1, 5);
        x.pay(1, -1, -1, 7);
        due("all(0)", x.all(0), 80);
        due("all(1)", x.all(1), 7 * 20);
        due("all(2)", x.all(2), 20);
        due("all(3)", x.all(3), 1750);
        // with a held it is 7 * 20 * 4 where 1 shows; elsewhere nothing is held, worth 140
        due("all(4)", x.all(4), 20 * 560 + 60 * 140);
        x.lines(3);
        due("all(1) of three lines", x.all(1), 3 * 7 * 20);
        due("all(2) of three lines", x.all(2), 60);
        due("all(3) of three lines", x.all(3), 1750);
        x.picture(0, 1, 0);
        due("all(1) after a picture", x.all(1), 0);
        x.picture(0, 0, 1);
        x.clear();
        x.pay(1, 0, 1, 1);
        x.lines(2);
        due("all(3) is cut", x.all(3), 62);
        due("all(5)", x.all(5), -2);
        due("all(-1)", x.all(-1), -2);
        due("all(SMALL)", x.all(SMALL), -2);
    }

    /** Reels of 4, 5 and 6 stops with one 1 each, at their last stops. */
    private static ThreeReels uneven() {
        ThreeReels x = new ThreeReels();
        for (int reel = 0; reel < 3; reel++) {
            x.reel(reel, 4 + reel);
            x.picture(reel, 3 + reel, 1);
        }
        return x;
    }

    private static void unevenReels() {
        ThreeReels x = uneven();
        x.pay(1, 1, 1, 100);
        x.pay(1, -1, -1, 1);
        x.pay(-1, 1, -1, 10);
        due("uneven: rows(0)", x.rows(0), 1);
        due("uneven: rows(1)", x.rows(1), 29);
        due("uneven: rows(2)", x.rows(2), 3 * 6);
        due("uneven: misses(1)", x.misses(1), 2 + 2 + 2);
        due("uneven: misses(0)", x.misses(0), 4 * 5 + 3 * 5 + 3 * 4);
        x.picture(0, 1, 1);
        x.picture(1, 0, 1);
        due("uneven: misses(1), two apart and two side by side", x.misses(1), 2 * 2 + 2 * 2 + 2 * 4);
        x.picture(2, 2, 1);
        due("uneven: misses(1), two apart on reel 2, too", x.misses(1), 2 * 4 + 2 * 4 + 4 * 4);
        x.picture(0, 0, 1);
        due("uneven: misses(1), three of four on reel 0", x.misses(1), 1 * 4 + 2 * 6 + 4 * 6);
        x = uneven();
        x.pay(1, 1, 1, 100);
        x.pay(1, -1, -1, 1);
        x.pay(-1, 1, -1, 10);
        x.lines(3);
        due("uneven: the last stops", x.ending(3, 4, 5), 100);
        due("uneven: above them", x.ending(0, 0, 0), 100);
        due("uneven: below them", x.ending(2, 3, 4), 100);
        due("uneven: 1 of reel 0 below", x.ending(2, 0, 4), 11);
        due("uneven: 1 of reel 1 below", x.ending(0, 3, 2), 11);
        x.clear();
        x.pay(0, 0, 0, 1);
        x.pay(1, 0, 0, 20);
        x.pay(0, 1, 0, 300);
        x.pay(0, 0, 1, 4000);
        due("uneven: reel 0 goes round", x.ending(3, 1, 1), 22);
        due("uneven: reel 1 goes round", x.ending(1, 4, 1), 302);
        due("uneven: reel 2 goes round", x.ending(1, 1, 5), 4002);
        due("uneven: stop 3 of reel 1 does not go round", x.ending(1, 3, 1), 302);
        due("uneven: stop 4 of reel 2 does not go round", x.ending(1, 1, 4), 4002);
        x.picture(0, 0, 2);
        x.picture(1, 0, 2);
        x.picture(2, 0, 2);
        x.pay(2, 2, 2, 7);
        due("uneven: 2 below the last stops, 0 above", x.ending(3, 4, 5), 8);
        due("uneven: 2 on reel 0 alone below", x.ending(3, 1, 1), 20);
        x.clear();
        x.pay(1, 1, 1, 100);
        x.pay(1, -1, -1, 1);
        x.pay(-1, 1, -1, 10);
        due("uneven: all(1)", x.all(1), 3 * (100 + 29 + 180));
    }

    /** What was asked for before a change is not answered again after it. */
    private static void changesTell() {
        ThreeReels x = small();
        due("before a row", x.all(1), 0);
        x.pay(1, -1, -1, 3);
        due("after a row", x.all(1), 48);
        due("before a lay", x.all(2), 16);
        x.count(1, 4);
        x.lay(0);
        due("after a lay", x.all(2), 64);
        x.reel(0, 5);
        due("after a reel", x.all(2), 0);
        x.picture(0, 0, 1);
        due("after a picture", x.all(2), 16);
        x.reel(0, 5);
        due("stop 0 is blank, too", x.at(0, 0), 0);
        x.picture(0, 0, 1);
        due("before lines", x.all(1), 48);
        x.lines(2);
        due("after lines", x.all(1), 96);
        x.clear();
        due("after clear", x.all(1), 0);
    }

    private static void dearest() {
        ThreeReels x = new ThreeReels();
        for (int reel = 0; reel < 3; reel++) {
            x.reel(reel, 20);
        }
        x.lines(3);
        x.pay(-1, -1, -1, 10000);
        due("greatest sum", x.all(1), 8000L * 30000);
        due("greatest hits", x.all(2), 8000);
        due("greatest back", x.all(3), 10000000);
        due("greatest played best", x.all(4), 8000L * 8000 * 30000);
        due("greatest worth", x.worth(19, 19, 19, 7), 8000L * 30000);
        due("greatest rows", x.rows(0), 8000);
    }

    private static void rows() {
        ThreeReels x = small();
        x.pay(1, 1, -1, 0);
        x.pay(1, -1, -1, 5);
        x.pay(-1, -1, 1, 2);
        x.lines(3);
        due("rows(0), paying nothing", x.rows(0), 4);
        due("rows(1)", x.rows(1), 12);
        due("rows(2)", x.rows(2), 12);
        due("rows(3)", x.rows(3), -2);
        due("rows(-1)", x.rows(-1), -2);
        due("rows(BIG)", x.rows(BIG), -2);
        x.clear();
        due("rows(0) of none", x.rows(0), -2);
    }

    private static void misses() {
        ThreeReels x = small();
        due("misses(1), one each", x.misses(1), 6);
        due("misses(2), none", x.misses(2), 0);
        // picture 0 stands in the middle of 3 stops of each reel and beside the fourth
        due("misses(0)", x.misses(0), 3 * 9);
        x.picture(0, 2, 1);
        due("misses(1), two side by side", x.misses(1), 2 + 2 * 2 + 2 * 2);
        x.reel(2, 4);
        due("misses(1), none on one reel", x.misses(1), 0);
        due("misses(8)", x.misses(8), -2);
        due("misses(-1)", x.misses(-1), -2);
        due("misses(BIG)", x.misses(BIG), -2);
    }

    public static void main(String[] args) {
        newObject();
        reel();
        picture();
        counting();
        lay();
        pay();
        lines();
        all();
        unevenReels();
        changesTell();
        dearest();
        rows();
        misses();
        CHECKS.finish();
    }
}
