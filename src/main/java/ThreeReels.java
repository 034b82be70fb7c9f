import java.util.Arrays;

/**
 * Three reels and a lever: strips of pictures, pays by the first row that fits, what all endings
 * pay together, what holding and nudging is worth, and the coins that games take and pay.
 */
public final class ThreeReels {
    public static final int NONE = -1, BAD = -2, NO = -3, FULL = -4;

    private static final int REELS = 3;
    private static final int FEWEST_STOPS = 4;
    private static final int MOST_STOPS = 20;
    private static final int PICTURES = 8;
    private static final int MOST_OF_A_PICTURE = 20;
    private static final int MOST_PAYS = 12;
    private static final int DEAREST_PAY = 10000;
    private static final int MOST_LINES = 3;
    private static final int ALL_HELD = 7;
    private static final int MOST_NUDGES = 6;
    private static final int MOST_BACK = 10000000;
    private static final int FIRST_ROOM = 100;
    private static final int MOST_ROOM = 200;
    private static final int MOST_FILLED = 200;
    private static final int MOST_GAMES_AHEAD = 50;
    private static final int MOST_SEEN = 200;
    private static final int COIN_KINDS = 8;

    private final Strips strips = new Strips();
    private final int[] counts = new int[PICTURES];
    private final PayTable table = new PayTable();
    private final Survey survey = new Survey();
    private final PayCounts payCounts = new PayCounts();
    private final Till till = new Till();
    private final Sightings sightings = new Sightings();
    private final Chances chances = new Chances();
    private final long[] weights = new long[PICTURES];
    private int lineCount = 1;
    private boolean surveyed = false;
    private boolean paysCounted = false;

    public ThreeReels() {
    }

    // ---- strips, pays

    public int reel(int reel, int n) {
        if (!isReel(reel) || !within(n, FEWEST_STOPS, MOST_STOPS)) {
            return BAD;
        }
        strips.blank(reel, n);
        sightings.forget();
        forgetFound();
        return 1;
    }

    public int picture(int reel, int stop, int p) {
        if (!strips.hasStop(reel, stop) || !isPicture(p)) {
            return BAD;
        }
        int before = strips.shown(reel, stop);
        strips.put(reel, stop, p);
        forgetFound();
        return before;
    }

    public int at(int reel, int stop) {
        return strips.hasStop(reel, stop) ? strips.shown(reel, stop) : BAD;
    }

    public int count(int picture, int many) {
        if (!isPicture(picture) || !within(many, 0, MOST_OF_A_PICTURE)) {
            return BAD;
        }
        int before = counts[picture];
        counts[picture] = many;
        return before;
    }

    public int lay(int reel) {
        if (!isReel(reel)) {
            return BAD;
        }
        int n = 0;
        for (int picture = 0; picture < PICTURES; picture++) {
            n += counts[picture];
        }
        if (!within(n, FEWEST_STOPS, MOST_STOPS)) {
            return NO;
        }
        strips.layEven(reel, n, counts);
        sightings.forget();
        forgetFound();
        return n;
    }

    public int pay(int a, int b, int c, int v) {
        if (!isWanted(a) || !isWanted(b) || !isWanted(c) || !within(v, 0, DEAREST_PAY)) {
            return BAD;
        }
        if (table.size >= MOST_PAYS) {
            return FULL;
        }
        forgetFound();
        return table.add(a, b, c, v);
    }

    public int clear() {
        forgetFound();
        return table.empty();
    }

    public int lines(int v) {
        if (!within(v, 1, MOST_LINES)) {
            return BAD;
        }
        int before = lineCount;
        lineCount = v;
        forgetFound();
        return before;
    }

    public int ending(int a, int b, int c) {
        return strips.hasEnding(a, b, c) ? endingPays(a, b, c) : BAD;
    }

    public long all(int what) {
        if (!within(what, 0, 4)) {
            return BAD;
        }
        return what == 4 ? playedBest() : total(what);
    }

    public int rows(int i) {
        if (!within(i, 0, table.size - 1)) {
            return BAD;
        }
        int endings = 0;
        for (int a = 0; a < strips.stopsOf(0); a++) {
            for (int b = 0; b < strips.stopsOf(1); b++) {
                for (int c = 0; c < strips.stopsOf(2); c++) {
                    if (table.firstRow(middleLine(a, b, c)) == i) {
                        endings++;
                    }
                }
            }
        }
        return endings;
    }

    public int misses(int picture) {
        if (!isPicture(picture)) {
            return BAD;
        }
        int in0 = strips.middles(0, picture);
        int in1 = strips.middles(1, picture);
        int in2 = strips.middles(2, picture);
        return strips.besides(0, picture) * in1 * in2
            + strips.besides(1, picture) * in0 * in2
            + strips.besides(2, picture) * in0 * in1;
    }

    // ---- holds, nudges, changes

    public long worth(int a, int b, int c, int held) {
        if (!strips.hasEnding(a, b, c) || !within(held, 0, ALL_HELD)) {
            return BAD;
        }
        surveyEndings();
        return worthOf(a, b, c, held);
    }

    public int hold(int a, int b, int c) {
        if (!strips.hasEnding(a, b, c)) {
            return BAD;
        }
        surveyEndings();
        return bestHold(a, b, c);
    }

    public int nudge(int a, int b, int c, int k, int what) {
        if (!strips.hasEnding(a, b, c) || !within(k, 0, MOST_NUDGES) || !within(what, 0, 1)) {
            return BAD;
        }
        int best = NONE;
        int bestSteps = 0;
        int bestNudge = 0;
        int stop0 = a;
        for (int d0 = 0; d0 <= k; d0++) {
            int stop1 = b;
            for (int d1 = 0; d0 + d1 <= k; d1++) {
                int stop2 = c;
                for (int d2 = 0; d0 + d1 + d2 <= k; d2++) {
                    int pays = endingPays(stop0, stop1, stop2);
                    int steps = d0 + d1 + d2;
                    // d0 and d1 rise, so of like ones with as many steps the first stays
                    if (pays > best || pays == best && steps < bestSteps) {
                        best = pays;
                        bestSteps = steps;
                        bestNudge = 100 * d0 + 10 * d1 + d2;
                    }
                    stop2 = strips.below(2, stop2);
                }
                stop1 = strips.below(1, stop1);
            }
            stop0 = strips.below(0, stop0);
        }
        return what == 0 ? best : bestNudge;
    }

    public int change(int reel, int lo, int hi) {
        if (!isReel(reel) || !within(lo, 0, MOST_BACK) || !within(hi, lo, MOST_BACK)) {
            return BAD;
        }
        weighPictures(reel);
        long sum = 0;
        for (int stop = 0; stop < strips.stopsOf(reel); stop++) {
            sum += weights[strips.shown(reel, stop)];
        }
        for (int stop = 0; stop < strips.stopsOf(reel); stop++) {
            int there = strips.shown(reel, stop);
            for (int p = 0; p < PICTURES; p++) {
                // over all endings every line pays as much as the middle one, so LINES fall out
                long back = cut((sum - weights[there] + weights[p]) * 1000, strips.endings());
                if (p != there && lo <= back && back <= hi) {
                    return 10 * stop + p;
                }
            }
        }
        return NONE;
    }

    // ---- coins

    public int room(int v) {
        if (!within(v, 1, MOST_ROOM)) {
            return BAD;
        }
        if (till.hopper > v) {
            return NO;
        }
        int before = till.space;
        till.space = v;
        return before;
    }

    public int fill(int n) {
        if (!within(n, 0, MOST_FILLED)) {
            return BAD;
        }
        if (till.hopper + n > till.space) {
            return NO;
        }
        till.hopper += n;
        till.filled += n;
        return till.hopper;
    }

    public int play(int a, int b, int c) {
        if (!strips.hasEnding(a, b, c)) {
            return BAD;
        }
        int pays = endingPays(a, b, c);
        till.take(lineCount);
        till.payOut(pays);
        sightings.add(a, b, c);
        return pays;
    }

    public int coins(int what) {
        switch (what) {
            case 0:
                return till.hopper;
            case 1:
                return till.box;
            case 2:
                return till.taken;
            case 3:
                return till.paid;
            case 4:
                return till.owed;
            case 5:
                return till.filled;
            case 6:
                return sightings.games;
            case 7:
                return till.space;
            default:
                return BAD;
        }
    }

    public long dry(int h, int t) {
        if (!within(h, 0, till.space) || !within(t, 0, MOST_GAMES_AHEAD)) {
            return BAD;
        }
        countPays();
        return bitsOf(chances.runsDry(h, t, lineCount, till.space, payCounts, strips.endings()));
    }

    public int favoured(int reel) {
        if (!isReel(reel)) {
            return BAD;
        }
        return sightings.games == 0 ? NONE : sightings.mostSeen(reel);
    }

    public long odd(int reel) {
        if (!isReel(reel)) {
            return BAD;
        }
        if (sightings.games == 0) {
            return NONE;
        }
        int most = sightings.times(reel, sightings.mostSeen(reel));
        return bitsOf(chances.asOften(most, sightings.games, strips.stopsOf(reel)));
    }

    public long digest() {
        long h = 251;
        for (int what = 0; what <= 3; what++) {
            h = 31 * h + total(what);
        }
        h = strips.mixedInto(h);
        for (int picture = 0; picture < PICTURES; picture++) {
            h = 31 * h + counts[picture];
        }
        h = table.mixedInto(h);
        h = 31 * h + lineCount;
        for (int what = 0; what < COIN_KINDS; what++) {
            h = 31 * h + coins(what);
        }
        return h;
    }

    // ---- what the calls share

    private static boolean within(int v, int least, int most) {
        return least <= v && v <= most;
    }

    private static boolean isReel(int reel) {
        return within(reel, 0, REELS - 1);
    }

    private static boolean isPicture(int p) {
        return within(p, 0, PICTURES - 1);
    }

    private static boolean isWanted(int p) {
        return p == NONE || isPicture(p);
    }

    private static long cut(long v, long by) {
        return by > 0 ? v / by : 0;
    }

    /** A line's number: its three pictures as the digits to the base of eight. */
    private static int lineOf(int p0, int p1, int p2) {
        return (p0 * PICTURES + p1) * PICTURES + p2;
    }

    private int middleLine(int a, int b, int c) {
        return lineOf(strips.shown(0, a), strips.shown(1, b), strips.shown(2, c));
    }

    private int endingPays(int a, int b, int c) {
        int pays = table.amount(middleLine(a, b, c));
        if (lineCount >= 2) {
            pays += table.amount(middleLine(strips.above(0, a), strips.above(1, b), strips.above(2, c)));
        }
        if (lineCount >= 3) {
            pays += table.amount(middleLine(strips.below(0, a), strips.below(1, b), strips.below(2, c)));
        }
        return pays;
    }

    /** What was found out about all endings holds until strips, pays or lines change. */
    private void forgetFound() {
        surveyed = false;
        paysCounted = false;
    }

    private void surveyEndings() {
        if (surveyed) {
            return;
        }
        survey.begin();
        for (int a = 0; a < strips.stopsOf(0); a++) {
            for (int b = 0; b < strips.stopsOf(1); b++) {
                for (int c = 0; c < strips.stopsOf(2); c++) {
                    survey.add(a, b, c, endingPays(a, b, c));
                }
            }
        }
        surveyed = true;
    }

    private void countPays() {
        if (paysCounted) {
            return;
        }
        payCounts.begin();
        for (int a = 0; a < strips.stopsOf(0); a++) {
            for (int b = 0; b < strips.stopsOf(1); b++) {
                for (int c = 0; c < strips.stopsOf(2); c++) {
                    payCounts.add(endingPays(a, b, c));
                }
            }
        }
        paysCounted = true;
    }

    /** What all(0) to all(3) answer. */
    private long total(int what) {
        surveyEndings();
        switch (what) {
            case 0:
                return strips.endings();
            case 1:
                return survey.sum;
            case 2:
                return survey.hits;
            default:
                return cut(survey.sum * 1000, (long) strips.endings() * lineCount);
        }
    }

    private long worthOf(int a, int b, int c, int held) {
        long pays = held == ALL_HELD ? endingPays(a, b, c) : survey.heldPays(a, b, c, held);
        return pays * strips.stopsHeld(held);
    }

    /** The survey must stand. */
    private int bestHold(int a, int b, int c) {
        int best = 0;
        long most = worthOf(a, b, c, 0);
        for (int held = 1; held <= ALL_HELD; held++) {
            long worth = worthOf(a, b, c, held);
            if (worth > most) {
                most = worth;
                best = held;
            }
        }
        return best;
    }

    private long playedBest() {
        surveyEndings();
        long sum = 0;
        for (int a = 0; a < strips.stopsOf(0); a++) {
            for (int b = 0; b < strips.stopsOf(1); b++) {
                for (int c = 0; c < strips.stopsOf(2); c++) {
                    sum += worthOf(a, b, c, bestHold(a, b, c));
                }
            }
        }
        return sum;
    }

    /** What each picture, at one stop of a reel, pays in the middle over all stops of the others. */
    private void weighPictures(int reel) {
        int left = reel == 0 ? 1 : 0;
        int right = reel == 2 ? 1 : 2;
        for (int p = 0; p < PICTURES; p++) {
            long sum = 0;
            for (int i = 0; i < strips.stopsOf(left); i++) {
                int x = strips.shown(left, i);
                for (int j = 0; j < strips.stopsOf(right); j++) {
                    int y = strips.shown(right, j);
                    int line = reel == 0 ? lineOf(p, x, y) : reel == 1 ? lineOf(x, p, y) : lineOf(x, y, p);
                    sum += table.amount(line);
                }
            }
            weights[p] = sum;
        }
    }

    /** The 64 bits of a double that is 0.0 or more and below 2.0, by arithmetic alone. */
    private static long bitsOf(double v) {
        if (v <= 0.0) {
            return 0;
        }
        double scaled = v;
        long exponent = 1023;
        while (scaled < 1.0 && exponent > 1) {
            scaled = scaled * 2.0;
            exponent--;
        }
        // below 1.0 it is one of the least doubles, which bear the exponent 0
        if (scaled < 1.0) {
            return (long) (scaled * 4503599627370496.0);
        }
        return (exponent << 52) + (long) ((scaled - 1.0) * 4503599627370496.0);
    }

    /** The strips of all reels, one behind the other; stops are to be looked at by the caller. */
    private static final class Strips {
        private final int[] stops = new int[REELS];
        private final int[] pictures = new int[REELS * MOST_STOPS];
        private final int[] laid = new int[PICTURES];
        private final int[] products = new int[ALL_HELD + 1];

        Strips() {
            Arrays.fill(stops, FEWEST_STOPS);
            multiply();
        }

        private void multiply() {
            for (int held = 0; held <= ALL_HELD; held++) {
                int product = 1;
                for (int reel = 0; reel < REELS; reel++) {
                    product *= (held >> reel & 1) == 1 ? stops[reel] : 1;
                }
                products[held] = product;
            }
        }

        boolean hasStop(int reel, int stop) {
            return isReel(reel) && within(stop, 0, stops[reel] - 1);
        }

        boolean hasEnding(int a, int b, int c) {
            return hasStop(0, a) && hasStop(1, b) && hasStop(2, c);
        }

        int stopsOf(int reel) {
            return stops[reel];
        }

        int endings() {
            return products[ALL_HELD];
        }

        /** The stops of the held reels, multiplied. */
        int stopsHeld(int held) {
            return products[held];
        }

        int shown(int reel, int stop) {
            return pictures[reel * MOST_STOPS + stop];
        }

        void put(int reel, int stop, int p) {
            pictures[reel * MOST_STOPS + stop] = p;
        }

        int above(int reel, int stop) {
            return stop == 0 ? stops[reel] - 1 : stop - 1;
        }

        int below(int reel, int stop) {
            return stop == stops[reel] - 1 ? 0 : stop + 1;
        }

        void blank(int reel, int n) {
            stops[reel] = n;
            multiply();
            for (int stop = 0; stop < MOST_STOPS; stop++) {
                put(reel, stop, 0);
            }
        }

        void layEven(int reel, int n, int[] wanted) {
            blank(reel, n);
            Arrays.fill(laid, 0);
            for (int stop = 0; stop < n; stop++) {
                int p = mostDue(stop, n, wanted);
                put(reel, stop, p);
                laid[p]++;
            }
        }

        private int mostDue(int stop, int n, int[] wanted) {
            int best = 0;
            int most = 0;
            boolean found = false;
            for (int p = 0; p < PICTURES; p++) {
                int due = wanted[p] * (stop + 1) - n * laid[p];
                if (laid[p] < wanted[p] && (!found || due > most)) {
                    best = p;
                    most = due;
                    found = true;
                }
            }
            return best;
        }

        int middles(int reel, int p) {
            int many = 0;
            for (int stop = 0; stop < stops[reel]; stop++) {
                if (shown(reel, stop) == p) {
                    many++;
                }
            }
            return many;
        }

        /** Stops that have the picture above or below, but not in the middle. */
        int besides(int reel, int p) {
            int many = 0;
            for (int stop = 0; stop < stops[reel]; stop++) {
                boolean beside = shown(reel, above(reel, stop)) == p || shown(reel, below(reel, stop)) == p;
                if (beside && shown(reel, stop) != p) {
                    many++;
                }
            }
            return many;
        }

        long mixedInto(long digest) {
            long h = digest;
            for (int reel = 0; reel < REELS; reel++) {
                h = 31 * h + stops[reel];
                for (int stop = 0; stop < stops[reel]; stop++) {
                    h = 31 * h + shown(reel, stop);
                }
            }
            return h;
        }
    }

    /** The rows of pays, and for each line of three pictures the first row that fits. */
    private static final class PayTable {
        private final int[] wanted = new int[MOST_PAYS * REELS];
        private final int[] amounts = new int[MOST_PAYS];
        private final int[] fitting = new int[PICTURES * PICTURES * PICTURES];
        private int size = 0;

        PayTable() {
            Arrays.fill(fitting, NONE);
        }

        /** There must be room for a row. */
        int add(int a, int b, int c, int v) {
            int row = size;
            wanted[row * REELS] = a;
            wanted[row * REELS + 1] = b;
            wanted[row * REELS + 2] = c;
            amounts[row] = v;
            size++;
            for (int p0 = 0; p0 < PICTURES; p0++) {
                for (int p1 = 0; p1 < PICTURES; p1++) {
                    if (fits(a, p0) && fits(b, p1)) {
                        fitLast(c, row, lineOf(p0, p1, 0));
                    }
                }
            }
            return row;
        }

        private void fitLast(int c, int row, int line) {
            for (int p2 = 0; p2 < PICTURES; p2++) {
                if (fits(c, p2) && fitting[line + p2] == NONE) {
                    fitting[line + p2] = row;
                }
            }
        }

        private static boolean fits(int wish, int p) {
            return wish == NONE || wish == p;
        }

        int empty() {
            int before = size;
            size = 0;
            Arrays.fill(fitting, NONE);
            return before;
        }

        int firstRow(int line) {
            return fitting[line];
        }

        int amount(int line) {
            int row = fitting[line];
            return row == NONE ? 0 : amounts[row];
        }

        long mixedInto(long digest) {
            long h = digest;
            for (int row = 0; row < size; row++) {
                for (int reel = 0; reel < REELS; reel++) {
                    h = 31 * h + wanted[row * REELS + reel];
                }
                h = 31 * h + amounts[row];
            }
            return h;
        }
    }

    /** What all endings pay: together, with one stop held, with two held, and how many pay. */
    private static final class Survey {
        private static final int PAIRS = MOST_STOPS * MOST_STOPS;

        private final long[] one = new long[REELS * MOST_STOPS];
        private final long[] two = new long[REELS * PAIRS];
        private long sum = 0;
        private int hits = 0;

        void begin() {
            Arrays.fill(one, 0);
            Arrays.fill(two, 0);
            sum = 0;
            hits = 0;
        }

        void add(int a, int b, int c, int v) {
            if (v == 0) {
                return;
            }
            hits++;
            sum += v;
            one[oneAt(0, a)] += v;
            one[oneAt(1, b)] += v;
            one[oneAt(2, c)] += v;
            two[twoAt(0, b, c)] += v;
            two[twoAt(1, a, c)] += v;
            two[twoAt(2, a, b)] += v;
        }

        /** For every set of held reels but all three. */
        long heldPays(int a, int b, int c, int held) {
            switch (held) {
                case 1:
                    return one[oneAt(0, a)];
                case 2:
                    return one[oneAt(1, b)];
                case 3:
                    return two[twoAt(2, a, b)];
                case 4:
                    return one[oneAt(2, c)];
                case 5:
                    return two[twoAt(1, a, c)];
                case 6:
                    return two[twoAt(0, b, c)];
                default:
                    return sum;
            }
        }

        private static int oneAt(int reel, int stop) {
            return reel * MOST_STOPS + stop;
        }

        private static int twoAt(int free, int left, int right) {
            return free * PAIRS + left * MOST_STOPS + right;
        }
    }

    /** The different pays of endings, rising, and how many endings pay each. */
    private static final class PayCounts {
        /** Three lines, each paying one of 12 rows or nothing: 13 * 14 * 15 / 6 sums at most. */
        private static final int MOST_SUMS = 455;

        private final int[] values = new int[MOST_SUMS];
        private final int[] times = new int[MOST_SUMS];
        private int size = 0;

        void begin() {
            size = 0;
        }

        void add(int v) {
            int place = placeOf(v);
            if (place < size && values[place] == v) {
                times[place]++;
            } else if (size < MOST_SUMS) {
                System.arraycopy(values, place, values, place + 1, size - place);
                System.arraycopy(times, place, times, place + 1, size - place);
                values[place] = v;
                times[place] = 1;
                size++;
            }
        }

        /** The first place whose value is v or more: the steps add up to more than MOST_SUMS. */
        private int placeOf(int v) {
            int place = 0;
            for (int step = 256; step > 0; step /= 2) {
                if (place + step <= size && values[place + step - 1] < v) {
                    place += step;
                }
            }
            return place;
        }
    }

    /** The coins, where they are and where they went. */
    private static final class Till {
        private int space = FIRST_ROOM;
        private int hopper = 0;
        private int box = 0;
        private int taken = 0;
        private int paid = 0;
        private int owed = 0;
        private int filled = 0;

        void take(int many) {
            int kept = Math.min(many, space - hopper);
            hopper += kept;
            box += many - kept;
            taken += many;
        }

        void payOut(int many) {
            int there = Math.min(many, hopper);
            hopper -= there;
            paid += there;
            owed += many - there;
        }
    }

    /** How often each stop of each reel was seen at the end of a game. */
    private static final class Sightings {
        private final int[] seen = new int[REELS * MOST_STOPS];
        private int games = 0;

        void forget() {
            games = 0;
            Arrays.fill(seen, 0);
        }

        void add(int a, int b, int c) {
            if (games >= MOST_SEEN) {
                return;
            }
            games++;
            seen[a]++;
            seen[MOST_STOPS + b]++;
            seen[2 * MOST_STOPS + c]++;
        }

        int times(int reel, int stop) {
            return seen[reel * MOST_STOPS + stop];
        }

        int mostSeen(int reel) {
            int best = 0;
            for (int stop = 1; stop < MOST_STOPS; stop++) {
                if (times(reel, stop) > times(reel, best)) {
                    best = stop;
                }
            }
            return best;
        }
    }

    /** Chances in doubles; every sum goes in the order that the document tells, as it rounds. */
    private static final class Chances {
        private final double[] odds = new double[MOST_SEEN + 1];
        private double[] before = new double[MOST_ROOM + 1];
        private double[] now = new double[MOST_ROOM + 1];

        double runsDry(int h, int t, int lines, int space, PayCounts pays, int endings) {
            Arrays.fill(now, 0.0);
            for (int games = 1; games <= t; games++) {
                double[] older = before;
                before = now;
                now = older;
                // games still to come lift h no higher than this
                int highest = Math.min(space, h + lines * (t - games));
                for (int coins = 0; coins <= highest; coins++) {
                    now[coins] = oneGame(Math.min(space, coins + lines), pays, endings);
                }
            }
            return now[h];
        }

        private double oneGame(int coins, PayCounts pays, int endings) {
            double sum = 0.0;
            for (int i = 0; i < pays.size; i++) {
                int v = pays.values[i];
                double share = (double) pays.times[i] / (double) endings;
                sum = sum + share * (v > coins ? 1.0 : before[coins - v]);
            }
            return sum;
        }

        /** The chance of at least m of games at 1 by n each. */
        double asOften(int m, int games, int n) {
            double hit = 1.0 / (double) n;
            double miss = 1.0 - 1.0 / (double) n;
            Arrays.fill(odds, 0.0);
            odds[0] = 1.0;
            for (int game = 1; game <= games; game++) {
                // after this many games no greater j has a chance yet
                for (int j = game; j >= 1; j--) {
                    odds[j] = odds[j] * miss + odds[j - 1] * hit;
                }
                odds[0] = odds[0] * miss;
            }
            double sum = 0.0;
            for (int j = m; j <= games; j++) {
                sum = sum + odds[j];
            }
            return sum;
        }
    }
}
