import java.math.BigInteger;
import java.util.ArrayList;
import java.util.Arrays;
import java.util.List;
import java.util.function.IntBinaryOperator;

/**
 * The document a second time, by other means: rows of rows made anew for every change, and the
 * plainest search for everything. ModelTest compares the program with it.
 */
final class Model {
    final int[][][] sheets = new int[4][8][8];
    private final int[] kernel = {1, 1, 1, 1, 1, 1, 1, 1, 1};
    private int divisor = 9;
    private int base = 0;

    /** The calls of the face by their numbers in ModelTest.CALLS. */
    Object call(int number, int[] a) {
        switch (number) {
            case 0: return fresh(a[0], a[1], a[2], a[3]);
            case 1: return dot(a[0], a[1], a[2], a[3]);
            case 2: return box(a[0], a[1], a[2], a[3], a[4], a[5]);
            case 3: return disc(a[0], a[1], a[2], a[3], a[4]);
            case 4: return shade(a[0], a[1], a[2], a[3]);
            case 5: return copy(a[0], a[1]);
            case 6: return mix(a[0], a[1], a[2]);
            case 7: return turn(a[0], a[1]);
            case 8: return kernel(a[0], a[1]);
            case 9: return divide(a[0], a[1]);
            case 10: return filter(a[0], a[1]);
            case 11: return values(a[0], a[1]);
            case 12: return value(a[0], a[1], a[2]);
            case 13: return sheet(a[0], a[1]);
            case 14: return count(a[0], a[1], a[2]);
            case 15: return ordered(a[0], a[1]);
            case 16: return difference(a[0], a[1]);
            case 17: return parts(a[0], a[1]);
            case 18: return holes(a[0], a[1]);
            case 19: return partOf(a[0], a[1], a[2], a[3]);
            case 20: return part(a[0], a[1], a[2], a[3]);
            case 21: return keep(a[0], a[1]);
            case 22: return far(a[0], a[1], a[2], a[3]);
            case 23: return spread(a[0], a[1]);
            case 24: return carve(a[0]);
            case 25: return widen(a[0]);
            case 26: return seam(a[0], a[1]);
            case 27: return partsAt(a[0], a[1], a[2]);
            case 28: return carvedBy(a[0], a[1]);
            default: return digest();
        }
    }

    // ---- helpers

    private static void place(boolean there) {
        if (!there) {
            throw new IndexOutOfBoundsException();
        }
    }

    private static void argument(boolean good) {
        if (!good) {
            throw new IllegalArgumentException();
        }
    }

    private static void state(boolean good) {
        if (!good) {
            throw new IllegalStateException();
        }
    }

    private void sheetThere(int s) {
        place(s >= 0 && s <= 3);
    }

    private void fieldThere(int s, int x, int y) {
        sheetThere(s);
        place(y >= 0 && y < sheets[s].length);
        place(x >= 0 && x < sheets[s][0].length);
    }

    private static int kept(long v) {
        return v > 255 ? 255 : v < 0 ? 0 : (int) v;
    }

    private static int at(int[][] p, int x, int y) {
        while (x < 0) x++;
        while (x >= p[0].length) x--;
        while (y < 0) y++;
        while (y >= p.length) y--;
        return p[y][x];
    }

    private static int[][] made(int w, int h, IntBinaryOperator how) {
        int[][] p = new int[h][w];
        for (int y = 0; y < h; y++) {
            for (int x = 0; x < w; x++) {
                p[y][x] = kept(how.applyAsInt(x, y));
            }
        }
        return p;
    }

    private int change(int s, IntBinaryOperator how) {
        int[][] old = sheets[s];
        sheets[s] = made(old[0].length, old.length, how);
        return differ(old, sheets[s]);
    }

    private static int differ(int[][] a, int[][] b) {
        int n = 0;
        for (int y = 0; y < a.length; y++) {
            for (int x = 0; x < a[0].length; x++) {
                n += a[y][x] == b[y][x] ? 0 : 1;
            }
        }
        return n;
    }

    private static boolean sameSize(int[][] a, int[][] b) {
        return a.length == b.length && a[0].length == b[0].length;
    }

    private static int[] flat(int[][] p) {
        return Arrays.stream(p).flatMapToInt(Arrays::stream).toArray();
    }

    // ---- drawing

    private int fresh(int s, int w, int h, int v) {
        sheetThere(s);
        argument(w >= 1 && w <= 16 && h >= 1 && h <= 16 && v >= 0 && v <= 255);
        sheets[s] = made(w, h, (x, y) -> v);
        return w * h;
    }

    private int dot(int s, int x, int y, int v) {
        fieldThere(s, x, y);
        argument(v >= 0 && v <= 255);
        int old = sheets[s][y][x];
        sheets[s][y][x] = v;
        return old;
    }

    private int box(int s, int ax, int ay, int bx, int by, int v) {
        fieldThere(s, ax, ay);
        fieldThere(s, bx, by);
        argument(v >= 0 && v <= 255);
        int[][] p = sheets[s];
        return change(s, (x, y) -> (x - ax) * (x - bx) <= 0 && (y - ay) * (y - by) <= 0 ? v : p[y][x]);
    }

    private int disc(int s, int cx, int cy, int r, int v) {
        fieldThere(s, cx, cy);
        argument(r >= 0 && r <= 20 && v >= 0 && v <= 255);
        int[][] p = sheets[s];
        return change(s, (x, y) -> (x - cx) * (x - cx) + (y - cy) * (y - cy) > r * r ? p[y][x] : v);
    }

    private int shade(int s, int across, int along, int rough) {
        sheetThere(s);
        for (int n : new int[] {across, along, rough}) {
            argument(n >= -50 && n <= 50);
        }
        int[][] p = sheets[s];
        change(s, (x, y) -> p[y][x] + across * x + along * y + ((x * 5 + y * 11 + x * y * 3) % 13) * rough);
        return Arrays.stream(flat(sheets[s])).sum();
    }

    private int copy(int from, int to) {
        sheetThere(from);
        sheetThere(to);
        int[][] old = sheets[to];
        int[][] p = sheets[from];
        sheets[to] = made(p[0].length, p.length, (x, y) -> p[y][x]);
        return sameSize(old, p) ? differ(old, p) : -1;
    }

    private int mix(int to, int from, int share) {
        sheetThere(to);
        sheetThere(from);
        argument(share >= 0 && share <= 100);
        int[][] p = sheets[to];
        int[][] q = sheets[from];
        state(sameSize(p, q));
        return change(to, (x, y) -> (p[y][x] * (100 - share) + q[y][x] * share) / 100);
    }

    private int turn(int s, int how) {
        sheetThere(s);
        argument(how >= 0 && how <= 3);
        int[][] p = sheets[s];
        int h = p.length;
        int w = p[0].length;
        if (how == 0) {
            int[][] turned = new int[w][h];
            for (int y = 0; y < h; y++) {
                for (int x = 0; x < w; x++) {
                    turned[x][h - 1 - y] = p[y][x];
                }
            }
            sheets[s] = turned;
        } else if (how == 1) {
            sheets[s] = made(w, h, (x, y) -> p[y][w - 1 - x]);
        } else if (how == 2) {
            sheets[s] = made(w == 1 ? 1 : w / 2, h == 1 ? 1 : h / 2, (x, y) ->
                    (at(p, 2 * x, 2 * y) + at(p, 2 * x + 1, 2 * y) + at(p, 2 * x, 2 * y + 1)
                            + at(p, 2 * x + 1, 2 * y + 1)) / 4);
        } else {
            state(w <= 8 && h <= 8);
            sheets[s] = made(2 * w, 2 * h, (x, y) -> p[y / 2][x / 2]);
        }
        return flat(sheets[s]).length;
    }

    // ---- filters and values

    private int kernel(int k, int weight) {
        place(k >= 0 && k <= 8);
        argument(weight >= -9 && weight <= 9);
        int old = kernel[k];
        kernel[k] = weight;
        return old;
    }

    private int divide(int d, int b) {
        argument(d >= 1 && d <= 99 && b >= 0 && b <= 255);
        int old = divisor;
        divisor = d;
        base = b;
        return old;
    }

    private static int[] nine(int[][] p, int x, int y) {
        return new int[] {at(p, x - 1, y - 1), at(p, x, y - 1), at(p, x + 1, y - 1),
            at(p, x - 1, y), at(p, x, y), at(p, x + 1, y),
            at(p, x - 1, y + 1), at(p, x, y + 1), at(p, x + 1, y + 1)};
    }

    private int filtered(int[][] p, int how, int x, int y) {
        int[] n = nine(p, x, y);
        int[] cross = {n[1], n[3], n[4], n[5], n[7]};
        int sum = 0;
        for (int i = 0; i < 9; i++) {
            sum += kernel[i] * n[i];
        }
        int edges = (Math.abs(n[2] + 2 * n[5] + n[8] - n[0] - 2 * n[3] - n[6])
                + Math.abs(n[6] + 2 * n[7] + n[8] - n[0] - 2 * n[1] - n[2])) / 4;
        Arrays.sort(n);
        Arrays.sort(cross);
        return new int[] {sum / divisor + base, n[4], edges, n[0], cross[0], n[8], cross[4]}[how];
    }

    private int filter(int s, int how) {
        sheetThere(s);
        argument(how >= 0 && how <= 8);
        int[][] p = sheets[s];
        if (how < 7) {
            return change(s, (x, y) -> filtered(p, how, x, y));
        }
        change(s, (x, y) -> filtered(p, how == 7 ? 3 : 5, x, y));
        int[][] q = sheets[s];
        change(s, (x, y) -> filtered(q, how == 7 ? 5 : 3, x, y));
        return differ(p, sheets[s]);
    }

    private static int cut(int[][] p) {
        int[] all = flat(p);
        BigInteger best = BigInteger.ONE.negate();
        int at = 0;
        for (int t = 1; t <= 255; t++) {
            int limit = t;
            long n = Arrays.stream(all).filter(v -> v < limit).count();
            long m = Arrays.stream(all).filter(v -> v >= limit).count();
            if (n > 0 && m > 0) {
                long sum = Arrays.stream(all).filter(v -> v < limit).sum();
                long rest = Arrays.stream(all).filter(v -> v >= limit).sum();
                BigInteger gain = BigInteger.valueOf(sum * m - rest * n).pow(2).divide(BigInteger.valueOf(n * m));
                if (gain.compareTo(best) > 0) {
                    best = gain;
                    at = t;
                }
            }
        }
        return at;
    }

    private int values(int s, int how) {
        sheetThere(s);
        argument(how >= 0 && how <= 3);
        int[][] p = sheets[s];
        int[] all = flat(p);
        int a = Arrays.stream(all).min().getAsInt();
        int b = Arrays.stream(all).max().getAsInt();
        int cut = cut(p);
        return change(s, (x, y) -> {
            int v = p[y][x];
            switch (how) {
                case 0: return 255 - v;
                case 1: return a == b ? v : (v - a) * 255 / (b - a);
                case 2: return (int) (255 * Arrays.stream(all).filter(o -> o <= v).count() / all.length);
                default: return v < cut ? 0 : 255;
            }
        });
    }

    private int value(int s, int x, int y) {
        fieldThere(s, x, y);
        return sheets[s][y][x];
    }

    private int sheet(int s, int what) {
        sheetThere(s);
        argument(what >= 0 && what <= 5);
        int[][] p = sheets[s];
        int[] all = flat(p);
        return new int[] {p[0].length, p.length, Arrays.stream(all).min().getAsInt(),
            Arrays.stream(all).max().getAsInt(), Arrays.stream(all).sum(), what == 5 ? cut(p) : 0}[what];
    }

    private int count(int s, int low, int high) {
        sheetThere(s);
        return (int) Arrays.stream(flat(sheets[s])).filter(v -> v >= low && v <= high).count();
    }

    private int ordered(int s, int k) {
        sheetThere(s);
        int[] all = flat(sheets[s]);
        Arrays.sort(all);
        place(k >= 0 && k < all.length);
        return all[k];
    }

    private double difference(int one, int other) {
        sheetThere(one);
        sheetThere(other);
        state(sameSize(sheets[one], sheets[other]));
        int[] a = flat(sheets[one]);
        int[] b = flat(sheets[other]);
        double sum = 0;
        for (int i = 0; i < a.length; i++) {
            sum += Math.abs(a[i] - b[i]);
        }
        return sum / a.length;
    }

    // ---- parts and distances

    /** Each FIELD takes the least first number beside it until nothing changes. */
    private static List<List<int[]>> partsOf(boolean[][] in, int ways) {
        int h = in.length;
        int w = in[0].length;
        int[][] first = new int[h][w];
        for (int i = 0; i < w * h; i++) {
            first[i / w][i % w] = i;
        }
        for (boolean again = true; again;) {
            again = false;
            for (int i = 0; i < 9 * w * h; i++) {
                int x = i / 9 % w;
                int y = i / 9 / w;
                int dx = i % 3 - 1;
                int dy = i / 3 % 3 - 1;
                boolean inside = x + dx >= 0 && x + dx < w && y + dy >= 0 && y + dy < h;
                if (inside && (ways == 8 || dx * dy == 0) && in[y][x] && in[y + dy][x + dx]
                        && first[y + dy][x + dx] < first[y][x]) {
                    first[y][x] = first[y + dy][x + dx];
                    again = true;
                }
            }
        }
        List<List<int[]>> parts = new ArrayList<>();
        for (int i = 0; i < w * h; i++) {
            List<int[]> part = new ArrayList<>();
            for (int k = 0; k < w * h; k++) {
                if (in[k / w][k % w] && first[k / w][k % w] == i) {
                    part.add(new int[] {k % w, k / w});
                }
            }
            if (!part.isEmpty()) {
                parts.add(part);
            }
        }
        return parts;
    }

    private static boolean[][] from(int[][] p, int t, boolean on) {
        boolean[][] in = new boolean[p.length][p[0].length];
        for (int i = 0; i < p.length * p[0].length; i++) {
            int x = i % p[0].length;
            int y = i / p[0].length;
            in[y][x] = on ? p[y][x] >= t : p[y][x] < t;
        }
        return in;
    }

    private static List<List<int[]>> on(int[][] p, int ways) {
        return partsOf(from(p, 128, true), ways);
    }

    private int parts(int s, int ways) {
        sheetThere(s);
        argument(ways == 4 || ways == 8);
        return on(sheets[s], ways).size();
    }

    private int holes(int s, int ways) {
        sheetThere(s);
        argument(ways == 4 || ways == 8);
        int[][] p = sheets[s];
        return (int) partsOf(from(p, 128, false), 12 - ways).stream().filter(part -> part.stream().noneMatch(
                f -> f[0] == 0 || f[1] == 0 || f[0] == p[0].length - 1 || f[1] == p.length - 1)).count();
    }

    private int partOf(int s, int ways, int x, int y) {
        fieldThere(s, x, y);
        argument(ways == 4 || ways == 8);
        List<List<int[]>> parts = on(sheets[s], ways);
        for (int i = 0; i < parts.size(); i++) {
            if (parts.get(i).stream().anyMatch(f -> f[0] == x && f[1] == y)) {
                return i;
            }
        }
        return -1;
    }

    private int part(int s, int ways, int number, int what) {
        sheetThere(s);
        argument(ways == 4 || ways == 8);
        List<List<int[]>> parts = on(sheets[s], ways);
        argument(number >= 0 && number < parts.size());
        argument(what >= 0 && what <= 5);
        List<int[]> part = parts.get(number);
        int[][] p = sheets[s];
        int sides = 0;
        for (int[] f : part) {
            int[][] beside = {{f[0] - 1, f[1]}, {f[0] + 1, f[1]}, {f[0], f[1] - 1}, {f[0], f[1] + 1}};
            for (int[] b : beside) {
                boolean outside = b[0] < 0 || b[1] < 0 || b[0] >= p[0].length || b[1] >= p.length;
                sides += outside || p[b[1]][b[0]] < 128 ? 1 : 0;
            }
        }
        return new int[] {part.size(), part.stream().mapToInt(f -> f[0]).min().getAsInt(),
            part.stream().mapToInt(f -> f[1]).min().getAsInt(), part.stream().mapToInt(f -> f[0]).max().getAsInt(),
            part.stream().mapToInt(f -> f[1]).max().getAsInt(), sides}[what];
    }

    private int keep(int s, int ways) {
        sheetThere(s);
        argument(ways == 4 || ways == 8);
        int[][] p = sheets[s];
        List<int[]> largest = new ArrayList<>();
        for (List<int[]> part : on(p, ways)) {
            largest = part.size() > largest.size() ? part : largest;
        }
        List<int[]> kept = largest;
        return change(s, (x, y) -> p[y][x] < 128 || kept.stream().anyMatch(f -> f[0] == x && f[1] == y)
                ? p[y][x] : 0);
    }

    private static int farOf(int[][] p, int way, int x, int y) {
        if (p[y][x] < 128) {
            return 0;
        }
        List<int[]> off = new ArrayList<>();
        List<int[]> around = new ArrayList<>();
        for (int row = -1; row <= p.length; row++) {
            for (int column = -1; column <= p[0].length; column++) {
                boolean inside = row >= 0 && column >= 0 && row < p.length && column < p[0].length;
                if (!inside) {
                    around.add(new int[] {column - x, row - y});
                } else if (p[row][column] < 128) {
                    off.add(new int[] {column - x, row - y});
                }
            }
        }
        return (off.isEmpty() ? around : off).stream().mapToInt(d -> way == 0 ? Math.abs(d[0]) + Math.abs(d[1])
                : way == 1 ? Math.max(Math.abs(d[0]), Math.abs(d[1])) : d[0] * d[0] + d[1] * d[1])
                .min().getAsInt();
    }

    private int far(int s, int way, int x, int y) {
        fieldThere(s, x, y);
        argument(way >= 0 && way <= 2);
        return farOf(sheets[s], way, x, y);
    }

    private int spread(int s, int way) {
        sheetThere(s);
        argument(way >= 0 && way <= 2);
        int[][] p = sheets[s];
        int[] greatest = {0};
        change(s, (x, y) -> {
            int far = farOf(p, way, x, y);
            greatest[0] = Math.max(greatest[0], far);
            return far * 10;
        });
        return greatest[0];
    }

    // ---- seams

    private static int cost(int[][] p, int x, int y) {
        return Math.abs(at(p, x + 1, y) - at(p, x - 1, y)) + Math.abs(at(p, x, y + 1) - at(p, x, y - 1));
    }

    /** The sum, then the x in the last row, and so on up to row 0; the first of all in that order. */
    private static int[] bestSeam(int[][] p) {
        List<int[]> ways = new ArrayList<>();
        for (int x = 0; x < p[0].length; x++) {
            ways.add(new int[] {cost(p, x, 0), x});
        }
        for (int y = 1; y < p.length; y++) {
            List<int[]> longer = new ArrayList<>();
            for (int x = 0; x < p[0].length; x++) {
                int[] best = null;
                for (int[] way : ways) {
                    if (Math.abs(way[1] - x) <= 1 && (best == null || Arrays.compare(way, best) < 0)) {
                        best = way;
                    }
                }
                int[] with = new int[best.length + 1];
                with[0] = best[0] + cost(p, x, y);
                with[1] = x;
                System.arraycopy(best, 1, with, 2, best.length - 1);
                longer.add(with);
            }
            ways = longer;
        }
        return ways.stream().min(Arrays::compare).get();
    }

    private static int seamAt(int[][] p, int[] seam, int y) {
        return seam[p.length - y];
    }

    private static int[][] without(int[][] p, int[] seam) {
        return made(p[0].length - 1, p.length, (x, y) -> x < seamAt(p, seam, y) ? p[y][x] : p[y][x + 1]);
    }

    private int carve(int s) {
        sheetThere(s);
        state(sheets[s][0].length > 1);
        int[] seam = bestSeam(sheets[s]);
        sheets[s] = without(sheets[s], seam);
        return seam[0];
    }

    private int widen(int s) {
        sheetThere(s);
        int[][] p = sheets[s];
        state(p[0].length < 16);
        int[] seam = bestSeam(p);
        sheets[s] = made(p[0].length + 1, p.length, (x, y) -> {
            int k = seamAt(p, seam, y);
            return x <= k ? p[y][x] : x > k + 1 ? p[y][x - 1] : (p[y][k] + at(p, k + 1, y)) / 2;
        });
        return seam[0];
    }

    private int seam(int s, int y) {
        sheetThere(s);
        place(y >= 0 && y < sheets[s].length);
        return seamAt(sheets[s], bestSeam(sheets[s]), y);
    }

    private int partsAt(int s, int ways, int t) {
        sheetThere(s);
        argument(ways == 4 || ways == 8);
        argument(t >= 0 && t <= 255);
        return partsOf(from(sheets[s], t, true), ways).size();
    }

    private int carvedBy(int s, int seams) {
        sheetThere(s);
        argument(seams >= 0 && seams < sheets[s][0].length);
        int[][] before = sheets[s];
        int cost = 0;
        for (int i = 0; i < seams; i++) {
            cost += carve(s);
        }
        sheets[s] = before;
        return cost;
    }

    private long digest() {
        List<Integer> v = new ArrayList<>();
        for (int s = 0; s < 4; s++) {
            int[][] p = sheets[s];
            for (int what = 0; what <= 5; what++) {
                v.add(sheet(s, what));
            }
            v.addAll(List.of(parts(s, 4), holes(s, 4), parts(s, 8), holes(s, 8)));
            for (int y = 0; y < p.length; y++) {
                v.add(seam(s, y));
            }
            if (p[0].length > 1) {
                v.add(carvedBy(s, 1));
            }
            for (int i = 0; i < p.length && i < p[0].length; i++) {
                v.add(far(s, 2, i, i));
            }
            for (int value : flat(p)) {
                v.add(value);
            }
        }
        long d = 58080;
        for (int value : v) {
            d = d * 31 + value;
        }
        return d;
    }
}
