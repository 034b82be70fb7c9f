import java.util.ArrayList;
import java.util.Arrays;
import java.util.HashMap;
import java.util.List;
import java.util.Map;
import java.util.TreeMap;

/**
 * The document's words once more, as plainly as they can be said and with no regard to speed:
 * what RandomRunsTest holds ThreeReels against.
 */
final class PlainReels {
    private final List<int[]> strips = new ArrayList<>();
    private final int[] counts = new int[8];
    private final List<int[]> pays = new ArrayList<>();
    private final List<int[]> seen = new ArrayList<>();
    private int lines = 1;
    private int room = 100;
    private int hopper;
    private int box;
    private int took;
    private int paid;
    private int owed;
    private int filled;

    PlainReels() {
        for (int r = 0; r < 3; r++) {
            strips.add(new int[4]);
        }
    }

    private static boolean in(int v, int lo, int hi) {
        return v >= lo && v <= hi;
    }

    private boolean stop(int r, int s) {
        return in(r, 0, 2) && in(s, 0, strips.get(r).length - 1);
    }

    private boolean stops(int a, int b, int c) {
        return stop(0, a) && stop(1, b) && stop(2, c);
    }

    int reel(int reel, int n) {
        if (!in(reel, 0, 2) || !in(n, 4, 20)) return -2;
        strips.set(reel, new int[n]);
        seen.clear();
        return 1;
    }

    int picture(int reel, int stop, int p) {
        if (!stop(reel, stop) || !in(p, 0, 7)) return -2;
        int was = strips.get(reel)[stop];
        strips.get(reel)[stop] = p;
        return was;
    }

    int at(int reel, int stop) {
        return stop(reel, stop) ? strips.get(reel)[stop] : -2;
    }

    int count(int picture, int many) {
        if (!in(picture, 0, 7) || !in(many, 0, 20)) return -2;
        int was = counts[picture];
        counts[picture] = many;
        return was;
    }

    int lay(int reel) {
        if (!in(reel, 0, 2)) return -2;
        int n = Arrays.stream(counts).sum();
        if (!in(n, 4, 20)) return -3;
        int[] strip = new int[n];
        for (int s = 0; s < n; s++) {
            int best = -1;
            int bestDue = Integer.MIN_VALUE;
            for (int p = 0; p < 8; p++) {
                int laid = 0;
                for (int i = 0; i < s; i++) {
                    if (strip[i] == p) laid++;
                }
                if (laid >= counts[p]) continue;
                int due = counts[p] * (s + 1) - n * laid;
                if (due > bestDue) {
                    bestDue = due;
                    best = p;
                }
            }
            strip[s] = best;
        }
        strips.set(reel, strip);
        seen.clear();
        return n;
    }

    int pay(int a, int b, int c, int v) {
        if (!in(a, -1, 7) || !in(b, -1, 7) || !in(c, -1, 7) || !in(v, 0, 10000)) return -2;
        if (pays.size() == 12) return -4;
        pays.add(new int[] {a, b, c, v});
        return pays.size() - 1;
    }

    int clear() {
        int was = pays.size();
        pays.clear();
        return was;
    }

    int lines(int v) {
        if (!in(v, 1, 3)) return -2;
        int was = lines;
        lines = v;
        return was;
    }

    private int pictureAt(int reel, int place) {
        int n = strips.get(reel).length;
        return strips.get(reel)[((place % n) + n) % n];
    }

    private int row(int a, int b, int c) {
        for (int i = 0; i < pays.size(); i++) {
            int[] row = pays.get(i);
            boolean fits0 = row[0] == -1 || row[0] == pictureAt(0, a);
            boolean fits1 = row[1] == -1 || row[1] == pictureAt(1, b);
            boolean fits2 = row[2] == -1 || row[2] == pictureAt(2, c);
            if (fits0 && fits1 && fits2) return i;
        }
        return -1;
    }

    private int line(int a, int b, int c) {
        int row = row(a, b, c);
        return row < 0 ? 0 : pays.get(row)[3];
    }

    private int pays(int a, int b, int c) {
        int sum = line(a, b, c);
        if (lines > 1) sum += line(a - 1, b - 1, c - 1);
        if (lines > 2) sum += line(a + 1, b + 1, c + 1);
        return sum;
    }

    int ending(int a, int b, int c) {
        return stops(a, b, c) ? pays(a, b, c) : -2;
    }

    private List<int[]> endings() {
        List<int[]> all = new ArrayList<>();
        for (int a = 0; a < strips.get(0).length; a++) {
            for (int b = 0; b < strips.get(1).length; b++) {
                for (int c = 0; c < strips.get(2).length; c++) {
                    all.add(new int[] {a, b, c});
                }
            }
        }
        return all;
    }

    private long back(long sum, long all) {
        return sum * 1000 / (all * lines);
    }

    long all(int what) {
        if (!in(what, 0, 4)) return -2;
        List<int[]> endings = endings();
        long sum = 0;
        long hits = 0;
        for (int[] e : endings) {
            int v = pays(e[0], e[1], e[2]);
            sum += v;
            if (v > 0) hits++;
        }
        if (what == 0) return endings.size();
        if (what == 1) return sum;
        if (what == 2) return hits;
        if (what == 3) return back(sum, endings.size());
        return playedBest(endings);
    }

    private static int key(int[] e, int held) {
        int key = held;
        for (int r = 0; r < 3; r++) {
            key = key * 21 + ((held >> r & 1) == 1 ? e[r] + 1 : 0);
        }
        return key;
    }

    private long playedBest(List<int[]> endings) {
        Map<Integer, Long> together = new HashMap<>();
        for (int[] e : endings) {
            for (int held = 0; held < 8; held++) {
                together.merge(key(e, held), (long) pays(e[0], e[1], e[2]), Long::sum);
            }
        }
        long sum = 0;
        for (int[] e : endings) {
            long best = 0;
            for (int held = 0; held < 8; held++) {
                best = Math.max(best, together.get(key(e, held)) * heldStops(held));
            }
            sum += best;
        }
        return sum;
    }

    private long heldStops(int held) {
        long product = 1;
        for (int r = 0; r < 3; r++) {
            if ((held >> r & 1) == 1) product *= strips.get(r).length;
        }
        return product;
    }

    int rows(int i) {
        if (!in(i, 0, pays.size() - 1)) return -2;
        int many = 0;
        for (int[] e : endings()) {
            if (row(e[0], e[1], e[2]) == i) many++;
        }
        return many;
    }

    int misses(int picture) {
        if (!in(picture, 0, 7)) return -2;
        int many = 0;
        for (int[] e : endings()) {
            int has = 0;
            int near = 0;
            for (int r = 0; r < 3; r++) {
                if (pictureAt(r, e[r]) == picture) has++;
                else if (pictureAt(r, e[r] - 1) == picture || pictureAt(r, e[r] + 1) == picture) near++;
            }
            if (has == 2 && near == 1) many++;
        }
        return many;
    }

    private long worthOf(int[] at, int held) {
        long sum = 0;
        for (int[] e : endings()) {
            boolean same = true;
            for (int r = 0; r < 3; r++) {
                if ((held >> r & 1) == 1 && e[r] != at[r]) same = false;
            }
            if (same) sum += pays(e[0], e[1], e[2]);
        }
        return sum * heldStops(held);
    }

    long worth(int a, int b, int c, int held) {
        if (!stops(a, b, c) || !in(held, 0, 7)) return -2;
        return worthOf(new int[] {a, b, c}, held);
    }

    int hold(int a, int b, int c) {
        if (!stops(a, b, c)) return -2;
        int[] at = {a, b, c};
        int best = 0;
        for (int held = 1; held < 8; held++) {
            if (worthOf(at, held) > worthOf(at, best)) best = held;
        }
        return best;
    }

    int nudge(int a, int b, int c, int k, int what) {
        if (!stops(a, b, c) || !in(k, 0, 6) || !in(what, 0, 1)) return -2;
        List<int[]> ways = new ArrayList<>();
        for (int d0 = 0; d0 <= 6; d0++) {
            for (int d1 = 0; d1 <= 6; d1++) {
                for (int d2 = 0; d2 <= 6; d2++) {
                    if (d0 + d1 + d2 <= k) ways.add(new int[] {pays(a + d0, b + d1, c + d2), d0, d1, d2});
                }
            }
        }
        ways.sort((x, y) -> {
            if (x[0] != y[0]) return y[0] - x[0];
            int fewer = x[1] + x[2] + x[3] - y[1] - y[2] - y[3];
            if (fewer != 0) return fewer;
            return x[1] != y[1] ? x[1] - y[1] : x[2] - y[2];
        });
        int[] best = ways.get(0);
        return what == 0 ? best[0] : 100 * best[1] + 10 * best[2] + best[3];
    }

    int change(int reel, int lo, int hi) {
        if (!in(reel, 0, 2) || !in(lo, 0, 10000000) || !in(hi, 0, 10000000) || lo > hi) return -2;
        int[] strip = strips.get(reel);
        for (int s = 0; s < strip.length; s++) {
            int was = strip[s];
            for (int p = 0; p < 8; p++) {
                if (p == was) continue;
                strip[s] = p;
                long back = all(3);
                strip[s] = was;
                if (back >= lo && back <= hi) return 10 * s + p;
            }
        }
        return -1;
    }

    int room(int v) {
        if (!in(v, 1, 200)) return -2;
        if (hopper > v) return -3;
        int was = room;
        room = v;
        return was;
    }

    int fill(int n) {
        if (!in(n, 0, 200)) return -2;
        if (hopper + n > room) return -3;
        hopper += n;
        filled += n;
        return hopper;
    }

    int play(int a, int b, int c) {
        if (!stops(a, b, c)) return -2;
        for (int i = 0; i < lines; i++) {
            if (hopper < room) hopper++;
            else box++;
            took++;
        }
        int v = pays(a, b, c);
        for (int i = 0; i < v; i++) {
            if (hopper > 0) {
                hopper--;
                paid++;
            } else {
                owed++;
            }
        }
        if (seen.size() < 200) seen.add(new int[] {a, b, c});
        return v;
    }

    int coins(int what) {
        int[] kinds = {hopper, box, took, paid, owed, filled, seen.size(), room};
        return in(what, 0, 7) ? kinds[what] : -2;
    }

    long dry(int h, int t) {
        if (!in(h, 0, room) || !in(t, 0, 50)) return -2;
        TreeMap<Integer, Integer> many = new TreeMap<>();
        List<int[]> endings = endings();
        for (int[] e : endings) {
            many.merge(pays(e[0], e[1], e[2]), 1, Integer::sum);
        }
        return Double.doubleToLongBits(chance(h, t, many, endings.size(), new HashMap<>()));
    }

    private double chance(int h, int t, TreeMap<Integer, Integer> many, int all, Map<Integer, Double> known) {
        if (t == 0) return 0.0;
        Double k = known.get(h * 51 + t);
        if (k != null) return k;
        int grown = Math.min(h + lines, room);
        double sum = 0.0;
        for (Map.Entry<Integer, Integer> e : many.entrySet()) {
            int v = e.getKey();
            double c = e.getValue();
            sum += c / all * (v > grown ? 1.0 : chance(grown - v, t - 1, many, all, known));
        }
        known.put(h * 51 + t, sum);
        return sum;
    }

    private int[] timesSeen(int reel) {
        int[] times = new int[strips.get(reel).length];
        for (int[] e : seen) {
            times[e[reel]]++;
        }
        return times;
    }

    int favoured(int reel) {
        if (!in(reel, 0, 2)) return -2;
        if (seen.isEmpty()) return -1;
        int[] times = timesSeen(reel);
        int best = 0;
        for (int s = 0; s < times.length; s++) {
            if (times[s] > times[best]) best = s;
        }
        return best;
    }

    long odd(int reel) {
        if (!in(reel, 0, 2)) return -2;
        if (seen.isEmpty()) return -1;
        int n = strips.get(reel).length;
        int m = timesSeen(reel)[favoured(reel)];
        int games = seen.size();
        double[] p = new double[games + 1];
        p[0] = 1.0;
        for (int i = 0; i < games; i++) {
            for (int j = games; j >= 0; j--) {
                p[j] = j == 0 ? p[j] * (1.0 - 1.0 / n) : p[j] * (1.0 - 1.0 / n) + p[j - 1] * (1.0 / n);
            }
        }
        double sum = 0.0;
        for (int j = m; j <= games; j++) {
            sum += p[j];
        }
        return Double.doubleToLongBits(sum);
    }

    long digest() {
        List<Long> values = new ArrayList<>();
        for (int i = 0; i < 4; i++) values.add(all(i));
        for (int[] strip : strips) {
            values.add((long) strip.length);
            for (int p : strip) values.add((long) p);
        }
        for (int c : counts) values.add((long) c);
        for (int[] row : pays) {
            for (int v : row) values.add((long) v);
        }
        values.add((long) lines);
        for (int i = 0; i < 8; i++) values.add((long) coins(i));
        long h = 251;
        for (long v : values) h = 31 * h + v;
        return h;
    }
}
