/** The boundary cases of promises 18 to 25, sentence by sentence. */
public final class CoinsEdgesTest {
    private static final Edges EDGES = new Edges();

    private static void due(String call, long got, long want) {
        EDGES.due(call, got, want);
    }

    private static ThreeReels holding(int room, int coins) {
        ThreeReels x = Edges.busy();
        x.clear();
        x.pay(-1, -1, -1, 10000);
        x.lines(1);
        x.play(0, 0, 0);
        x.room(room);
        x.fill(coins);
        return x;
    }

    private static void roomWas() {
        ThreeReels x = new ThreeReels();
        due("room(1)", x.room(1), 100);
        due("room(200)", x.room(200), 1);
        due("room(200) again", x.room(200), 200);
        due("room(1) again", x.room(1), 200);
        EDGES.range(() -> holding(1, 0), "room(?) of an empty one", 1, 200, (y, v) -> y.room(v));
    }

    private static void roomNo() {
        EDGES.refused(() -> holding(200, 200), "room(199) with 200", x -> x.room(199), Edges.NO);
        EDGES.refused(() -> holding(200, 200), "room(1) with 200", x -> x.room(1), Edges.NO);
        EDGES.refused(() -> holding(200, 2), "room(1) with 2", x -> x.room(1), Edges.NO);
        due("room(200) with 200", holding(200, 200).room(200), 200);
        due("room(2) with 2", holding(200, 2).room(2), 200);
        due("room(1) with 1", holding(50, 1).room(1), 50);
        due("room(1) with none", holding(50, 0).room(1), 50);
        EDGES.refused(() -> holding(200, 200), "room(0): BAD ahead of NO", x -> x.room(0), Edges.BAD);
    }

    private static void fillAdds() {
        ThreeReels x = new ThreeReels();
        due("fill(0) of an empty one", x.fill(0), 0);
        due("fill(1)", x.fill(1), 1);
        due("fill(99) to its ROOM", x.fill(99), 100);
        due("fill(0) of a full one", x.fill(0), 100);
        due("filled", x.coins(5), 100);
        x = new ThreeReels();
        x.room(200);
        due("fill(200)", x.fill(200), 200);
        due("filled 200", x.coins(5), 200);
        due("none are taken", x.coins(2), 0);
        EDGES.range(() -> holding(200, 0), "fill(?)", 0, 200, (y, v) -> y.fill(v));
    }

    private static void fillNo() {
        EDGES.refused(() -> holding(1, 1), "fill(1) of a full ROOM of 1", x -> x.fill(1), Edges.NO);
        EDGES.refused(() -> holding(1, 0), "fill(2) of an empty ROOM of 1", x -> x.fill(2), Edges.NO);
        EDGES.refused(() -> holding(200, 200), "fill(1) of 200", x -> x.fill(1), Edges.NO);
        EDGES.refused(() -> holding(200, 1), "fill(200) of 1", x -> x.fill(200), Edges.NO);
        EDGES.refused(() -> holding(199, 0), "fill(200) of a ROOM of 199", x -> x.fill(200), Edges.NO);
        due("fill(199) of 1", holding(200, 1).fill(199), 200);
        EDGES.refused(() -> holding(200, 200), "fill(201): BAD ahead of NO", x -> x.fill(201), Edges.BAD);
        EDGES.refused(() -> holding(1, 0), "fill(201): BAD ahead of NO, empty", x -> x.fill(201), Edges.BAD);
    }

    private static void playPays() {
        ThreeReels x = Edges.numbered();
        x.pay(3, 3, 3, 10000);
        x.pay(0, 0, 0, 0);
        due("no row", x.play(1, 1, 1), 0);
        due("a row of 0", x.play(0, 0, 0), 0);
        due("the last STOPS", x.play(3, 3, 3), 10000);
        due("of which some are OWED", x.coins(4), 9997);
        x.lines(3);
        due("the row is above STOPS 0", x.play(0, 0, 0), 10000);
        due("taken", x.coins(2), 6);
        due("paid", x.coins(3), 6);
        due("OWED", x.coins(4), 19994);
        due("games SEEN", x.coins(6), 4);
    }

    private static void playBad() {
        EDGES.range(Edges::busy, "play(?, 0, 0), of 5", 0, 4, (x, v) -> x.play(v, 0, 0));
        EDGES.range(Edges::busy, "play(0, ?, 0), of 6", 0, 5, (x, v) -> x.play(0, v, 0));
        EDGES.range(Edges::busy, "play(0, 0, ?), of 4", 0, 3, (x, v) -> x.play(0, 0, v));
        EDGES.range(() -> Edges.reelsOf(20), "play(19, 19, ?), of 20", 0, 19, (x, v) -> x.play(19, 19, v));
    }

    private static ThreeReels seenAll() {
        ThreeReels x = Edges.busy();
        for (int game = 3; game < 200; game++) {
            x.play(game % 5, game % 6, game % 4);
        }
        return x;
    }

    private static void playAfterTwoHundred() {
        ThreeReels x = seenAll();
        due("200", x.coins(6), 200);
        int taken = x.coins(2);
        long odd = x.odd(0);
        int favoured = x.favoured(0);
        for (int game = 0; game < 90; game++) {
            due("it pays as before", x.play(3, 0, 0), x.ending(3, 0, 0));
        }
        due("still 200", x.coins(6), 200);
        due("favoured as before", x.favoured(0), favoured);
        due("as odd as before", x.odd(0), odd);
        due("two coins each", x.coins(2), taken + 180);
        EDGES.refused(CoinsEdgesTest::seenAll, "play(5, 0, 0) after 200", y -> y.play(5, 0, 0), Edges.BAD);
    }

    private static void coinsBad() {
        EDGES.range(Edges::busy, "coins(?)", 0, 7, (x, v) -> x.coins(v));
        EDGES.range(ThreeReels::new, "new: coins(?)", 0, 7, (x, v) -> x.coins(v));
        EDGES.changesNothing(Edges::busy, "coins(7)", x -> x.coins(7));
    }

    private static void coinsEach() {
        ThreeReels x = new ThreeReels();
        x.picture(0, 0, 1);
        x.pay(1, -1, -1, 25);
        x.room(10);
        x.fill(9);
        x.lines(2);
        x.play(2, 0, 0);
        int[] full = {10, 1, 2, 0, 0, 9, 1, 10};
        for (int what = 0; what < 8; what++) {
            due("full: coins(" + what + ")", x.coins(what), full[what]);
        }
        x.play(0, 0, 0);
        int[] empty = {0, 3, 4, 10, 15, 9, 2, 10};
        for (int what = 0; what < 8; what++) {
            due("empty: coins(" + what + ")", x.coins(what), empty[what]);
        }
    }

    private static void dryBad() {
        EDGES.range(Edges::busy, "dry(?, 3), ROOM 50", 0, 50, (x, v) -> x.dry(v, 3));
        EDGES.range(Edges::busy, "dry(?, 0), ROOM 50", 0, 50, (x, v) -> x.dry(v, 0));
        EDGES.range(() -> holding(1, 1), "dry(?, 3), ROOM 1", 0, 1, (x, v) -> x.dry(v, 3));
        EDGES.range(() -> holding(200, 0), "dry(?, 3), ROOM 200", 0, 200, (x, v) -> x.dry(v, 3));
        EDGES.range(ThreeReels::new, "dry(?, 3), ROOM 100", 0, 100, (x, v) -> x.dry(v, 3));
        EDGES.range(Edges::busy, "dry(0, ?)", 0, 50, (x, v) -> x.dry(0, v));
        EDGES.range(Edges::busy, "dry(50, ?)", 0, 50, (x, v) -> x.dry(50, v));
        EDGES.refused(Edges::busy, "dry(51, 51)", x -> x.dry(51, 51), Edges.BAD);
    }

    private static void dryBits() {
        ThreeReels x = holding(200, 200);
        EDGES.dueBits("0.0", x.dry(0, 0), 0.0);
        EDGES.dueBits("1.0", x.dry(200, 50), 1.0);
        x = Edges.reelsOf(20);
        x.picture(0, 0, 1);
        x.picture(1, 0, 1);
        x.picture(2, 0, 1);
        x.pay(1, 1, 1, 200);
        x.room(200);
        EDGES.dueBits("one of 8000", x.dry(0, 1), 1.0 / 8000.0);
        EDGES.dueBits("199 and 1 are enough", x.dry(199, 1), 0.0);
        x.clear();
        x.pay(1, 1, 1, 2);
        double chance = 1.0;
        for (int game = 0; game < 50; game++) {
            chance = 7999.0 / 8000.0 * 0.0 + 1.0 / 8000.0 * chance;
        }
        // from 49 coins only 50 pays in a row run dry, and after any other game it can't be any more
        EDGES.dueBits("50 in a row", x.dry(49, 50), chance);
    }

    private static void favouredNone() {
        ThreeReels x = new ThreeReels();
        for (int reel = 0; reel < 3; reel++) {
            due("nothing was SEEN: favoured(" + reel + ")", x.favoured(reel), Edges.NONE);
        }
        due("a refused game", x.play(4, 0, 0), Edges.BAD);
        due("is not SEEN", x.favoured(0), Edges.NONE);
        x.play(3, 0, 1);
        due("one was: favoured(0)", x.favoured(0), 3);
        due("one was: favoured(1)", x.favoured(1), 0);
        due("one was: favoured(2)", x.favoured(2), 1);
        due("a refused reel", x.reel(0, 21), Edges.BAD);
        due("leaves it", x.favoured(0), 3);
        due("a refused lay", x.lay(0), Edges.NO);
        due("leaves it, too", x.favoured(0), 3);
    }

    private static void favouredBad() {
        EDGES.range(Edges::busy, "favoured(?)", 0, 2, (x, v) -> x.favoured(v));
        EDGES.range(ThreeReels::new, "new: favoured(?)", 0, 2, (x, v) -> x.favoured(v));
        EDGES.changesNothing(Edges::busy, "favoured(0)", x -> x.favoured(0));
    }

    private static void oddNone() {
        ThreeReels x = new ThreeReels();
        for (int reel = 0; reel < 3; reel++) {
            due("odd(" + reel + ")", x.odd(reel), Edges.NONE);
        }
        x.reel(2, 20);
        x.play(0, 0, 19);
        EDGES.dueBits("1 of 1 at 4", x.odd(0), 0.25);
        EDGES.dueBits("1 of 1 at 20", x.odd(2), 1.0 / 20.0);
        x.reel(0, 4);
        due("nothing SEEN again", x.odd(2), Edges.NONE);
    }

    private static void oddBad() {
        EDGES.range(Edges::busy, "odd(?)", 0, 2, (x, v) -> x.odd(v));
        EDGES.range(ThreeReels::new, "new: odd(?)", 0, 2, (x, v) -> x.odd(v));
        EDGES.changesNothing(Edges::busy, "odd(0)", x -> x.odd(0));
    }

    private static long mixed(long h, long... values) {
        long mix = h;
        for (long v : values) {
            mix = 31 * mix + v;
        }
        return mix;
    }

    private static long reelsOfZeros(long h, int... sizes) {
        long mix = h;
        for (int n : sizes) {
            mix = mixed(mix, n);
            for (int stop = 0; stop < n; stop++) {
                mix = mixed(mix, 0);
            }
        }
        return mix;
    }

    private static void digestOfNew() {
        long h = reelsOfZeros(mixed(251, 64, 0, 0, 0), 4, 4, 4);
        due("digest()", new ThreeReels().digest(), mixed(h, 0, 0, 0, 0, 0, 0, 0, 0, 1, 0, 0, 0, 0, 0, 0, 0, 100));
    }

    private static void digestOfFull() {
        ThreeReels x = Edges.reelsOf(20);
        x.lines(3);
        x.room(200);
        x.fill(200);
        for (int p = 0; p < 8; p++) {
            x.count(p, 20 - p);
        }
        for (int row = 0; row < 12; row++) {
            x.pay(-1, -1, -1, 10000 - row);
        }
        for (int game = 0; game < 201; game++) {
            x.play(0, 0, 0);
        }
        long h = reelsOfZeros(mixed(251, 8000, 240000000, 8000, 10000000), 20, 20, 20);
        h = mixed(h, 20, 19, 18, 17, 16, 15, 14, 13);
        for (int row = 0; row < 12; row++) {
            h = mixed(h, -1, -1, -1, 10000 - row);
        }
        // the first game's three coins find no ROOM; from then on each game's three are paid at once
        h = mixed(h, 3, 0, 3, 603, 200 + 600, 201 * 30000 - 800, 200, 200, 200);
        due("digest()", x.digest(), h);
        EDGES.changesNothing(Edges::busy, "digest()", y -> y.digest());
    }

    private static void digestInOrder() {
        ThreeReels x = new ThreeReels();
        x.reel(0, 20);
        x.reel(1, 5);
        long h = mixed(251, 400, 0, 0, 0, 20);
        for (int stop = 0; stop < 20; stop++) {
            x.picture(0, stop, stop * 3 % 7);
            h = mixed(h, stop * 3 % 7);
        }
        x.picture(1, 0, 2);
        x.picture(1, 4, 5);
        x.picture(2, 3, 6);
        h = mixed(h, 5, 2, 0, 0, 0, 5, 4, 0, 0, 0, 6);
        h = mixed(h, 0, 0, 0, 0, 0, 0, 0, 0);
        // on REEL 0 no STOP has 7, so no row pays
        for (int row = 0; row < 12; row++) {
            x.pay(7, row % 9 - 1, (row + 4) % 9 - 1, row * 31);
            h = mixed(h, 7, row % 9 - 1, (row + 4) % 9 - 1, row * 31);
        }
        due("digest()", x.digest(), mixed(h, 1, 0, 0, 0, 0, 0, 0, 0, 100));
    }

    private static void digestOfEach() {
        ThreeReels x = new ThreeReels();
        x.reel(1, 5);
        x.reel(2, 20);
        long before = x.digest();
        int[][] ends = {{0, 0}, {0, 3}, {1, 0}, {1, 4}, {2, 0}, {2, 19}};
        for (int[] end : ends) {
            x.picture(end[0], end[1], 7);
            EDGES.due("a PICTURE tells at " + end[0] + ", " + end[1], x.digest() == before ? 1 : 0, 0);
            x.picture(end[0], end[1], 0);
            due("and goes", x.digest(), before);
        }
        for (int p = 0; p < 8; p++) {
            x.count(p, 1);
            EDGES.due("a COUNT tells of " + p, x.digest() == before ? 1 : 0, 0);
            x.count(p, 0);
        }
        x.pay(7, 7, 7, 0);
        EDGES.due("a row tells that pays nothing", x.digest() == before ? 1 : 0, 0);
        x.clear();
        due("all as before", x.digest(), before);
    }

    public static void main(String[] args) {
        EDGES.sentence("18: ROOM (1 .. 200): what it was. BAD", CoinsEdgesTest::roomWas);
        EDGES.sentence("18: BAD; NO: THE HOPPER has more", CoinsEdgesTest::roomNo);
        EDGES.sentence("19: n coins (0 .. 200) by hand: what THE HOPPER has then", CoinsEdgesTest::fillAdds);
        EDGES.sentence("19: BAD; NO: no ROOM", CoinsEdgesTest::fillNo);
        EDGES.sentence("20: what it pays (of which some may be OWED)", CoinsEdgesTest::playPays);
        EDGES.sentence("20: its STOPS are SEEN (if not 200 games were)", CoinsEdgesTest::playAfterTwoHundred);
        EDGES.sentence("20: BAD", CoinsEdgesTest::playBad);
        EDGES.sentence("21: 0 THE HOPPER .. 7 ROOM", CoinsEdgesTest::coinsEach);
        EDGES.sentence("21: BAD", CoinsEdgesTest::coinsBad);
        EDGES.sentence("22: Bits of DRY", CoinsEdgesTest::dryBits);
        EDGES.sentence("22: BAD: h (0 .. ROOM), t (0 .. 50)", CoinsEdgesTest::dryBad);
        EDGES.sentence("23: FAVOURED: the STOP. NONE: nothing was SEEN", CoinsEdgesTest::favouredNone);
        EDGES.sentence("23: BAD", CoinsEdgesTest::favouredBad);
        EDGES.sentence("24: Bits of HOW ODD. NONE", CoinsEdgesTest::oddNone);
        EDGES.sentence("24: BAD", CoinsEdgesTest::oddBad);
        EDGES.sentence("25: digest of a new object", CoinsEdgesTest::digestOfNew);
        EDGES.sentence("25: digest of a full one", CoinsEdgesTest::digestOfFull);
        EDGES.sentence("25: of REELS n, PICTURES; of PAYS three PICTURES, how much", CoinsEdgesTest::digestInOrder);
        EDGES.sentence("25: for each v", CoinsEdgesTest::digestOfEach);
        EDGES.finish();
    }
}
