/** Promises 26 to 31: seams, and what would be. */
public final class SeamsTest {
    private static final Checks CHECKS = new Checks();

    public static void main(String[] args) {
        promise26Carve();
        promise27Widen();
        promise28Seam();
        promise28SeamOfSeveral();
        promise29PartsAt();
        promise30CarvedBy();
        promise31DigestOfNew();
        promise31Digest();
        CHECKS.close();
    }

    /** COSTS: 24 27 3 10, 22 22 14 19, 30 30 14 1; the BEST SEAM goes over x 2, 2, 3 and costs 18. */
    private static ParallaxSheets slope() {
        return Checks.drawn(Checks.row(10, 30, 31, 32), Checks.row(14, 36, 30, 41), Checks.row(10, 36, 40, 40));
    }

    /** Only what is below the bright FIELD at the corner, and beside it, costs anything. */
    private static ParallaxSheets corner() {
        ParallaxSheets made = new ParallaxSheets();
        made.fresh(0, 5, 4, 0);
        made.dot(0, 0, 0, 100);
        return made;
    }

    private static void promise26Carve() {
        ParallaxSheets s = Checks.drawn(Checks.row(10, 30, 31, 35, 90));
        CHECKS.due("cost in one row", s.carve(0), 5);
        CHECKS.shows("one row", s, 0, Checks.row(10, 30, 35, 90));
        CHECKS.due("cost again", s.carve(0), 20);
        CHECKS.shows("one row again", s, 0, Checks.row(30, 35, 90));
        CHECKS.due("cost at the left edge", s.carve(0), 5);
        CHECKS.due("of two the first", s.carve(0), 55);
        CHECKS.shows("one field", s, 0, Checks.row(90));
        CHECKS.refuses("W 1", s, Checks.NO_STATE, () -> s.carve(0));
        CHECKS.refuses("no sheet", s, Checks.NO_PLACE, () -> s.carve(4));
        CHECKS.refuses("no sheet", s, Checks.NO_PLACE, () -> s.carve(-1));
        s.fresh(1, 3, 4, 9);
        CHECKS.due("nothing costs", s.carve(1), 0);
        CHECKS.due("W then", s.sheet(1, 0), 2);
        CHECKS.due("H then", s.sheet(1, 1), 4);
        ParallaxSheets slope = slope();
        CHECKS.due("cost of a slope", slope.carve(0), 18);
        CHECKS.shows("the slope", slope, 0, Checks.row(10, 30, 32), Checks.row(14, 36, 41), Checks.row(10, 36, 40));
    }

    private static void promise27Widen() {
        ParallaxSheets s = Checks.drawn(Checks.row(10, 30, 31, 36, 90));
        CHECKS.due("cost in one row", s.widen(0), 6);
        CHECKS.shows("one row", s, 0, Checks.row(10, 30, 31, 33, 36, 90));
        Checks.draw(s, 0, Checks.row(90, 10, 10));
        CHECKS.due("at the right edge", s.widen(0), 0);
        CHECKS.shows("at the right edge", s, 0, Checks.row(90, 10, 10, 10));
        Checks.draw(s, 0, Checks.row(5), Checks.row(9), Checks.row(20));
        CHECKS.due("a column", s.widen(0), 30);
        CHECKS.shows("a column", s, 0, Checks.row(5, 5), Checks.row(9, 9), Checks.row(20, 20));
        ParallaxSheets slope = slope();
        CHECKS.due("a slope", slope.widen(0), 18);
        CHECKS.shows("a slope", slope, 0, Checks.row(10, 30, 31, 31, 32), Checks.row(14, 36, 30, 35, 41),
                Checks.row(10, 36, 40, 40, 40));
        s.fresh(1, 15, 16, 3);
        CHECKS.due("up to 16", s.widen(1), 0);
        CHECKS.due("W then", s.sheet(1, 0), 16);
        CHECKS.due("all then", s.count(1, 3, 3), 256);
        CHECKS.refuses("W 16", s, Checks.NO_STATE, () -> s.widen(1));
        CHECKS.refuses("no sheet", s, Checks.NO_PLACE, () -> s.widen(4));
        CHECKS.refuses("no sheet", s, Checks.NO_PLACE, () -> s.widen(-1));
    }

    private static void promise28Seam() {
        ParallaxSheets s = slope();
        CHECKS.due("row 0", s.seam(0, 0), 2);
        CHECKS.due("row 1", s.seam(0, 1), 2);
        CHECKS.due("row 2", s.seam(0, 2), 3);
        CHECKS.refuses("row 3", s, Checks.NO_PLACE, () -> s.seam(0, 3));
        CHECKS.refuses("row -1", s, Checks.NO_PLACE, () -> s.seam(0, -1));
        CHECKS.refuses("no sheet", s, Checks.NO_PLACE, () -> s.seam(4, 0));
        CHECKS.refuses("no sheet", s, Checks.NO_PLACE, () -> s.seam(-1, 0));
    }

    private static void promise28SeamOfSeveral() {
        ParallaxSheets s = corner();
        int[] want = {2, 1, 0, 0};
        for (int y = 0; y < want.length; y++) {
            CHECKS.due("of several, row " + y, s.seam(0, y), want[y]);
        }
        s.fresh(0, 16, 16, 77);
        CHECKS.due("all the same, last row", s.seam(0, 15), 0);
        CHECKS.due("all the same, first row", s.seam(0, 0), 0);
    }

    private static void promise29PartsAt() {
        ParallaxSheets s = Checks.drawn(Checks.row(5, 0, 5), Checks.row(0, 9, 0), Checks.row(5, 0, 255));
        CHECKS.due("t 0", s.partsAt(0, 4, 0), 1);
        CHECKS.due("t 1", s.partsAt(0, 4, 1), 5);
        CHECKS.due("t 5", s.partsAt(0, 4, 5), 5);
        CHECKS.due("t 6", s.partsAt(0, 4, 6), 2);
        CHECKS.due("t 6 by 8", s.partsAt(0, 8, 6), 1);
        CHECKS.due("t 10", s.partsAt(0, 8, 10), 1);
        CHECKS.due("t 255", s.partsAt(0, 8, 255), 1);
        CHECKS.due("of zeros", s.partsAt(1, 8, 1), 0);
        long before = s.digest();
        s.partsAt(0, 4, 1);
        CHECKS.due("nothing changes", s.digest(), before);
        CHECKS.due("nor what is on", s.parts(0, 4), 1);
        CHECKS.refuses("no sheet", s, Checks.NO_PLACE, () -> s.partsAt(4, 5, 256));
        CHECKS.refuses("ways 5", s, Checks.NO_ARGUMENT, () -> s.partsAt(0, 5, 0));
        CHECKS.refuses("t 256", s, Checks.NO_ARGUMENT, () -> s.partsAt(0, 4, 256));
        CHECKS.refuses("t -1", s, Checks.NO_ARGUMENT, () -> s.partsAt(0, 4, -1));
    }

    private static void promise30CarvedBy() {
        ParallaxSheets s = Checks.drawn(Checks.row(10, 30, 31, 35, 90));
        int[] want = {0, 5, 25, 30, 85};
        long before = s.digest();
        for (int seams = 0; seams < want.length; seams++) {
            CHECKS.due("carved by " + seams, s.carvedBy(0, seams), want[seams]);
        }
        CHECKS.due("nothing changes", s.digest(), before);
        CHECKS.shows("nothing changes", s, 0, Checks.row(10, 30, 31, 35, 90));
        CHECKS.refuses("seams 5", s, Checks.NO_ARGUMENT, () -> s.carvedBy(0, 5));
        CHECKS.refuses("seams -1", s, Checks.NO_ARGUMENT, () -> s.carvedBy(0, -1));
        CHECKS.refuses("no sheet", s, Checks.NO_PLACE, () -> s.carvedBy(4, -1));
        CHECKS.refuses("no sheet", s, Checks.NO_PLACE, () -> s.carvedBy(-1, 0));
        s.fresh(1, 1, 3, 7);
        CHECKS.due("none of one", s.carvedBy(1, 0), 0);
        CHECKS.refuses("one of one", s, Checks.NO_ARGUMENT, () -> s.carvedBy(1, 1));
        ParallaxSheets slope = slope();
        int cost = slope.carvedBy(0, 3);
        CHECKS.due("as carved one after the other", cost, slope.carve(0) + slope.carve(0) + slope.carve(0));
    }

    private static void promise31DigestOfNew() {
        long d = 58080L;
        for (int i = 0; i < 4; i++) {
            d = d * 31 + 8;
            d = d * 31 + 8;
            // 4 more of sheet(), 4 of parts and holes, 8 seams, carvedBy, 8 of far, 64 values.
            for (int zero = 0; zero < 4 + 4 + 8 + 1 + 8 + 64; zero++) {
                d = d * 31;
            }
        }
        CHECKS.due("digest of a new one", new ParallaxSheets().digest(), d);
    }

    private static void promise31Digest() {
        ParallaxSheets s = slope();
        Checks.draw(s, 1, "#.#####", "#.#..##", ".######", "#######", "#.#.##.");
        s.fresh(2, 1, 3, 200);
        Checks.draw(s, 3, Checks.row(255, 9));
        long want = digestByCalls(s);
        CHECKS.due("digest", s.digest(), want);
        CHECKS.due("digest changes nothing", s.digest(), want);
        s.dot(1, 3, 3, 129);
        CHECKS.tell(s.digest() != want, "another value left the digest as it was");
    }

    private static long digestByCalls(ParallaxSheets s) {
        long d = 58080L;
        for (int i = 0; i < 4; i++) {
            for (int what = 0; what <= 5; what++) {
                d = d * 31 + s.sheet(i, what);
            }
            d = d * 31 + s.parts(i, 4);
            d = d * 31 + s.holes(i, 4);
            d = d * 31 + s.parts(i, 8);
            d = d * 31 + s.holes(i, 8);
            int w = s.sheet(i, 0);
            int h = s.sheet(i, 1);
            for (int y = 0; y < h; y++) {
                d = d * 31 + s.seam(i, y);
            }
            if (w > 1) {
                d = d * 31 + s.carvedBy(i, 1);
            }
            for (int k = 0; k < w && k < h; k++) {
                d = d * 31 + s.far(i, 2, k, k);
            }
            for (int k = 0; k < w * h; k++) {
                d = d * 31 + s.value(i, k % w, k / w);
            }
        }
        return d;
    }
}
