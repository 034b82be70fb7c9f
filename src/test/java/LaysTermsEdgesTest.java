import java.util.Arrays;

/** The boundary cases of the section "Terms" for NUDGES, LAID EVEN and CHANGED, sentence by sentence. */
public final class LaysTermsEdgesTest {
    private static final Edges EDGES = new Edges();

    private static void due(String call, long got, long want) {
        EDGES.due(call, got, want);
    }

    /** PICTURE 1 at one STOP of REEL 0 of n STOPS, which pays 5. */
    private static ThreeReels oneOn(int n, int stop) {
        ThreeReels x = new ThreeReels();
        x.reel(0, n);
        x.picture(0, stop, 1);
        x.pay(1, -1, -1, 5);
        return x;
    }

    private static void nudgesTogetherAtMostK() {
        ThreeReels x = oneOn(20, 6);
        for (int k = 0; k <= 6; k++) {
            due("k " + k + " from just as far", x.nudge(6 - k, 0, 0, k, 1), 100 * k);
            due("it pays", x.nudge(6 - k, 0, 0, k, 0), 5);
            int farther = k == 6 ? 19 : 5 - k;
            due("k " + k + " from one STOP farther", x.nudge(farther, 0, 0, k, 0), 0);
            due("nothing is nudged for nothing", x.nudge(farther, 0, 0, k, 1), 0);
        }
        x = Edges.numbered();
        x.pay(2, 2, 2, 9);
        due("2 each are 6", x.nudge(0, 0, 0, 6, 1), 222);
        due("6 are not 5", x.nudge(0, 0, 0, 5, 0), 0);
        due("a REEL goes on, never back", x.nudge(3, 2, 2, 2, 0), 0);
        due("0 or more each", x.nudge(2, 2, 2, 0, 0), 9);
        x = new ThreeReels();
        x.reel(2, 20);
        x.picture(2, 6, 1);
        x.pay(-1, -1, 1, 5);
        due("6 on REEL 2", x.nudge(0, 0, 0, 6, 1), 6);
        x.reel(1, 20);
        x.picture(1, 6, 1);
        x.clear();
        x.pay(-1, 1, -1, 5);
        due("6 on REEL 1", x.nudge(0, 0, 0, 6, 1), 60);
    }

    private static void nudgesGoRound() {
        for (int n = 4; n <= 20; n++) {
            ThreeReels x = oneOn(n, 0);
            due("from the last of " + n, x.nudge(n - 1, 0, 0, 1, 1), 100);
            due("from the last but one of " + n, x.nudge(n - 2, 0, 0, 2, 1), 200);
            due("by one too few", x.nudge(n - 2, 0, 0, 1, 0), 0);
        }
        ThreeReels x = oneOn(4, 0);
        due("4 STOPS, from STOP 1 round", x.nudge(1, 0, 0, 3, 1), 300);
        due("4 STOPS, once round is enough", x.nudge(1, 0, 0, 6, 1), 300);
        due("4 STOPS, there already", x.nudge(0, 0, 0, 6, 1), 0);
        x = oneOn(20, 5);
        due("20 STOPS, from the last by 6", x.nudge(19, 0, 0, 6, 1), 600);
        due("20 STOPS, from the last but one by 6", x.nudge(18, 0, 0, 6, 0), 0);
        x = new ThreeReels();
        x.reel(1, 5);
        x.reel(2, 20);
        x.picture(0, 0, 1);
        x.picture(1, 0, 1);
        x.picture(2, 0, 1);
        x.pay(1, 1, 1, 5);
        due("each REEL round at its own last STOP", x.nudge(3, 4, 19, 3, 1), 111);
        due("each by two", x.nudge(2, 3, 18, 6, 1), 222);
        due("REEL 1 has a fifth STOP", x.nudge(3, 3, 19, 3, 0), 0);
        x.lines(3);
        due("the LINE below comes round, too", x.nudge(2, 3, 18, 3, 1), 111);
        x.lines(2);
        due("STOPS 1 have it above", x.nudge(1, 1, 1, 0, 0), 5);
    }

    private static void bestNudgeOfLikeOnes() {
        ThreeReels x = Edges.numbered();
        x.pay(2, 0, 0, 5);
        x.pay(0, 2, 0, 5);
        due("least d0", x.nudge(0, 0, 0, 2, 1), 20);
        x.pay(0, 0, 2, 5);
        due("least d1", x.nudge(0, 0, 0, 2, 1), 2);
        x.pay(1, 0, 0, 5);
        due("fewer ahead of the least d0", x.nudge(0, 0, 0, 6, 1), 100);
        x.pay(3, 3, 0, 6);
        due("most ahead of fewer", x.nudge(0, 0, 0, 6, 1), 330);
        due("it pays", x.nudge(0, 0, 0, 6, 0), 6);
        due("if it can be reached", x.nudge(0, 0, 0, 5, 1), 100);
        x.clear();
        x.pay(0, 2, 0, 5);
        x.pay(0, 1, 1, 5);
        x.pay(1, 0, 1, 5);
        x.pay(1, 1, 0, 5);
        due("of d0 0 the least d1", x.nudge(0, 0, 0, 6, 1), 11);
        x.clear();
        x.pay(1, 1, 0, 5);
        x.pay(1, 0, 1, 5);
        due("of d0 1 the least d1", x.nudge(0, 0, 0, 6, 1), 101);
        x.clear();
        x.pay(0, 3, 3, 5);
        x.pay(1, 0, 3, 5);
        due("fewer by d0 1", x.nudge(0, 0, 0, 6, 1), 103);
        x.clear();
        x.pay(-1, -1, -1, 5);
        due("none at all", x.nudge(0, 0, 0, 6, 1), 0);
    }

    private static void laid(ThreeReels x, int reel, int... pictures) {
        due("lay(" + reel + ")", x.lay(reel), pictures.length);
        for (int stop = 0; stop < pictures.length; stop++) {
            due("at(" + reel + ", " + stop + ")", x.at(reel, stop), pictures[stop]);
        }
        due("behind the last", x.at(reel, pictures.length), Edges.BAD);
    }

    private static void counts(ThreeReels x, int... many) {
        for (int p = 0; p < 8; p++) {
            x.count(p, p < many.length ? many[p] : 0);
        }
    }

    private static void laidEven() {
        ThreeReels x = new ThreeReels();
        counts(x, 0, 0, 0, 0, 0, 0, 0, 4);
        laid(x, 0, 7, 7, 7, 7);
        counts(x, 20);
        laid(x, 1, new int[20]);
        counts(x, 1, 1, 1, 1, 1, 1, 1, 1);
        laid(x, 2, 0, 1, 2, 3, 4, 5, 6, 7);
        counts(x, 0, 2, 0, 0, 0, 0, 2);
        laid(x, 0, 1, 6, 1, 6);
        counts(x, 3, 1);
        // dues: 3 1; 2 2: of like ones 0; 1 3; 4 0
        laid(x, 0, 0, 0, 1, 0);
        counts(x, 1, 3);
        // dues: 1 3; 2 2: of like ones 0; -1 5; 0 4
        laid(x, 0, 1, 0, 1, 1);
        int[] strip = new int[20];
        Arrays.fill(strip, 7);
        strip[9] = 0;
        counts(x, 1, 0, 0, 0, 0, 0, 0, 19);
        laid(x, 1, strip);
        strip = new int[20];
        strip[10] = 7;
        counts(x, 19, 0, 0, 0, 0, 0, 0, 1);
        laid(x, 1, strip);
        counts(x, 0, 0, 2, 2, 1);
        // of 5: 2 2 1; -1 4 2; 1 1 3; 3 3 -1: of like ones 2; then 3 is left
        laid(x, 2, 2, 3, 4, 2, 3);
    }

    private static void changedFirst() {
        ThreeReels x = new ThreeReels();
        for (int p = 1; p < 8; p++) {
            x.pay(p, -1, -1, 8 * p);
        }
        for (int p = 1; p < 8; p++) {
            due("just 2000 times " + p, x.change(0, 2000 * p, 2000 * p), p);
            due("lo is it", x.change(0, 2000 * p, 2000 * p + 1), p);
            due("hi is it", x.change(0, 2000 * p - 1, 2000 * p), p);
            due("one above", x.change(0, 2000 * p + 1, 2000 * p + 1999), -1);
        }
        due("below the least change", x.change(0, 0, 1999), -1);
        due("above the greatest change", x.change(0, 14001, 10000000), -1);
        due("PICTURES rise", x.change(0, 0, 10000000), 1);
        x.picture(0, 0, 1);
        due("0 is unlike 1", x.change(0, 0, 10000000), 0);
        due("as much as now: unlike that which is there", x.change(0, 2000, 2000), -1);
        x.picture(0, 3, 1);
        due("as much as now, by two STOPS", x.change(0, 4000, 4000), -1);
        due("one less", x.change(0, 2000, 2000), 0);
    }

    private static void changedAtTheEnds() {
        ThreeReels x = Edges.reelsOf(20);
        for (int stop = 0; stop < 19; stop++) {
            x.picture(0, stop, 7);
        }
        x.pay(7, -1, -1, 20);
        due("the last STOP and PICTURE", x.change(0, 20000, 20000), 197);
        due("the first STOP and PICTURE", x.change(0, 18000, 18000), 0);
        due("STOPS rise ahead of PICTURES", x.change(0, 19000, 19000), 191);
        x = new ThreeReels();
        for (int stop = 0; stop < 3; stop++) {
            x.picture(2, stop, 7);
        }
        x.pay(-1, -1, 7, 4);
        due("the last of 4", x.change(2, 4000, 4000), 37);
        x.picture(2, 3, 7);
        due("no STOP behind it", x.change(2, 5000, 5000), -1);
        due("none keeps all", x.change(2, 4000, 4000), -1);
        x = new ThreeReels();
        x.pay(-1, -1, -1, 10000);
        due("BACK, the greatest", x.change(1, 10000000, 10000000), 1);
        due("one below it", x.change(1, 0, 9999999), -1);
        x.clear();
        due("BACK, the least, without PAYS", x.change(1, 0, 0), 1);
        due("one above it", x.change(1, 1, 10000000), -1);
    }

    private static void changedCut() {
        ThreeReels x = Edges.reelsOf(20);
        x.picture(1, 0, 1);
        x.picture(2, 0, 1);
        x.pay(1, 1, 1, 15);
        // 15 by 8000 is 1.875 thousandths
        for (int lines = 1; lines <= 3; lines++) {
            x.lines(lines);
            due("LINES " + lines + ": cut to 1", x.change(0, 1, 1), 1);
            due("LINES " + lines + ": not 2", x.change(0, 2, 10000000), -1);
            due("LINES " + lines + ": 2 keeps 0", x.change(0, 0, 0), 2);
        }
        EDGES.changesNothing(Edges::busy, "change(0, 0, 10000000)", y -> y.change(0, 0, 10000000));
        EDGES.changesNothing(Edges::busy, "change(2, 0, 0)", y -> y.change(2, 0, 0));
    }

    public static void main(String[] args) {
        EDGES.sentence("NUDGES k (0 .. 6): .. 0 or more each, together k at most", LaysTermsEdgesTest::nudgesTogetherAtMostK);
        EDGES.sentence("REELS go on by d0, d1, d2 STOPS", LaysTermsEdgesTest::nudgesGoRound);
        EDGES.sentence("THE BEST NUDGE: .. of like ones", LaysTermsEdgesTest::bestNudgeOfLikeOnes);
        EDGES.sentence("LAID EVEN: .. of those that are left; of like ones the least", LaysTermsEdgesTest::laidEven);
        EDGES.sentence("CHANGED: .. unlike that which is there the first", LaysTermsEdgesTest::changedFirst);
        EDGES.sentence("CHANGED: of all STOPS of a REEL (rising) and PICTURES (rising)", LaysTermsEdgesTest::changedAtTheEnds);
        EDGES.sentence("CHANGED: BACK would be from lo to hi", LaysTermsEdgesTest::changedCut);
        EDGES.finish();
    }
}
