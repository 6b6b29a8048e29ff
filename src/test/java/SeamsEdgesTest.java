import java.math.BigInteger;
import java.util.ArrayList;
import java.util.Arrays;
import java.util.List;

/** Each sentence that names a boundary in promises 26 to 31, and in what the Terms say of SEAMS. */
public final class SeamsEdgesTest {
    private static final Checks CHECKS = new Checks();

    public static void main(String[] args) {
        costAtEdgesAndCorners();
        costInOneRow();
        costInOneColumn();
        costOfTheGreatest();
        seamDiffersByAtMost1();
        seamOfTiesInTheLastRow();
        seamOfTiesAbove();
        seamOfTheSame();
        seamHasOneFieldInEachRow();
        carveDownTo1();
        carveAtTheLeftAndTheRight();
        carveOfTwo();
        widenUpTo16();
        widenBesideTheSheet();
        widenIsCut();
        partsAtFrom0To255();
        partsAtOf0IsAll();
        partsAtChangesNothing();
        carvedByFrom0ToWLess1();
        carvedByIsOneAfterTheOther();
        carvedByChangesNothing();
        digestOfOneField();
        digestOfSmallSheets();
        digestOfHolesByEachWay();
        digestOfTheLargest();
        digestWrapsAround();
        digestIsOfSheetsAlone();
        CHECKS.close();
    }

    private static ParallaxSheets powers() {
        return Checks.drawn(Checks.row(1, 2, 4), Checks.row(8, 16, 32), Checks.row(64, 128, 255));
    }

    private static void seams(String what, ParallaxSheets s, int sheet, int... want) {
        for (int y = 0; y < want.length; y++) {
            CHECKS.due(what + ", row " + y, s.seam(sheet, y), want[y]);
        }
    }

    private static void costAtEdgesAndCorners() {
        CHECKS.sentence("The COST of a FIELD: |VALUE of the FIELD to the right - that to the left| "
                + "+ |VALUE of that below - that above|, with BESIDE.");
        // COSTS: 8 17 30, 71 150 267, 120 303 350; they stay with their FIELDS when the SHEET is turned.
        // The SEAM goes over the column 8 71 120, or over the row 8 17 30 when that has become a column.
        int[] costs = {199, 55, 199, 55};
        int[] columns = {0, 2, 2, 0};
        for (int turns = 0; turns < 4; turns++) {
            ParallaxSheets s = powers();
            for (int i = 0; i < turns; i++) {
                s.turn(0, 0);
            }
            seams("turned " + turns + " times", s, 0, columns[turns], columns[turns], columns[turns]);
            CHECKS.due("cost, turned " + turns + " times", s.carvedBy(0, 1), costs[turns]);
            s.turn(0, 1);
            seams("mirrored then", s, 0, 2 - columns[turns], 2 - columns[turns], 2 - columns[turns]);
            CHECKS.due("cost, mirrored then", s.carvedBy(0, 1), costs[turns]);
        }
        ParallaxSheets two = Checks.drawn(Checks.row(1, 2), Checks.row(4, 8));
        // COSTS: 4 7, 7 10
        CHECKS.due("of two times two", two.carvedBy(0, 1), 11);
        two.turn(0, 1);
        CHECKS.due("of two times two, mirrored", two.carvedBy(0, 1), 11);
        seams("of two times two, mirrored", two, 0, 1, 1);
    }

    private static void costInOneRow() {
        CHECKS.sentence("COST in one row: |VALUE of the FIELD to the right - that to the left|, with BESIDE");
        // COSTS: 9 20 10 1
        ParallaxSheets s = Checks.drawn(Checks.row(0, 9, 20, 19));
        CHECKS.due("at the right edge", s.carvedBy(0, 1), 1);
        seams("at the right edge", s, 0, 3);
        s.turn(0, 1);
        CHECKS.due("at the left edge", s.carvedBy(0, 1), 1);
        seams("at the left edge", s, 0, 0);
        Checks.draw(s, 0, Checks.row(0, 9, 7, 30, 60));
        CHECKS.due("within", s.carvedBy(0, 1), 7);
        seams("within", s, 0, 1);
    }

    private static void costInOneColumn() {
        CHECKS.sentence("COST in one column: |VALUE of that below - that above|, with BESIDE");
        int[][] columnsAndWant = {{5, 0}, {5, 9, 8}, {5, 9, 20, 30}, {20, 9, 5, 30}, {255, 0, 510}, {0, 255, 0, 510}};
        for (int[] c : columnsAndWant) {
            int h = c.length - 1;
            ParallaxSheets s = Checks.even(1, h, 0);
            for (int y = 0; y < h; y++) {
                s.dot(0, 0, y, c[y]);
                CHECKS.due("the only x", s.seam(0, y), 0);
            }
            CHECKS.due("cost of " + Arrays.toString(c), s.widen(0), c[h]);
        }
    }

    private static void costOfTheGreatest() {
        CHECKS.sentence("The BEST SEAM has the least sum of COSTS: one of the largest");
        ParallaxSheets s = Checks.even(1, 16, 0);
        for (int y = 0; y < 16; y++) {
            s.dot(0, 0, y, y / 2 % 2 * 255);
        }
        // 0 0 255 255 0 0 ..: within each FIELD has one of each kind beside it.
        CHECKS.due("14 times 255", s.widen(0), 14 * 255);
    }

    private static void seamDiffersByAtMost1() {
        CHECKS.sentence("the x of one in the next row differs by at most 1");
        // COSTS: 7 13 0, 1 13 6: from 0 to 1 would be two places.
        ParallaxSheets s = Checks.drawn(Checks.row(2, 9, 9), Checks.row(2, 3, 9));
        seams("not two places", s, 0, 2, 2);
        CHECKS.due("not two places", s.carvedBy(0, 1), 6);
        s.turn(0, 1);
        seams("not two places, mirrored", s, 0, 0, 0);
        CHECKS.due("not two places, mirrored", s.carvedBy(0, 1), 6);
        // COSTS: 10 9 13 4, 4 11 6 2, 8 1 4 2
        Checks.draw(s, 0, Checks.row(2, 9, 5, 1), Checks.row(5, 3, 0, 1), Checks.row(0, 3, 1, 0));
        seams("not two places", s, 0, 3, 3, 3);
        CHECKS.due("not two places", s.carvedBy(0, 1), 8);
        // COSTS: 4 1 1 1, 5 4 1 1: one place is allowed.
        Checks.draw(s, 0, Checks.row(3, 2, 4, 3), Checks.row(0, 2, 4, 3));
        seams("one place", s, 0, 1, 2);
        // COSTS: 8 10 6 5, 0 3 9 11, 9 9 3 9: to the left by one, then to the right by one.
        Checks.draw(s, 0, Checks.row(9, 1, 7, 7), Checks.row(9, 9, 7, 2), Checks.row(9, 0, 9, 1));
        seams("there and back", s, 0, 2, 1, 2);
        CHECKS.due("there and back", s.carvedBy(0, 1), 12);
        // COSTS: 13 1 0 7 0, 11 7 9 8 5, 3 9 11 13 6, 9 9 1 10 12
        Checks.draw(s, 0, Checks.row(9, 2, 9, 2, 2), Checks.row(3, 1, 9, 2, 2), Checks.row(0, 3, 1, 1, 7),
                Checks.row(3, 9, 0, 9, 2));
        seams("there, straight on and back", s, 0, 2, 1, 1, 2);
        CHECKS.due("there, straight on and back", s.carvedBy(0, 1), 17);
    }

    private static void seamOfTiesInTheLastRow() {
        CHECKS.sentence("of several, from the last row on: the smallest x there");
        // COSTS: 6 3 3 4, 8 3 3 6
        ParallaxSheets s = Checks.drawn(Checks.row(5, 4, 3, 2), Checks.row(0, 3, 2, 5));
        seams("1 and 2", s, 0, 1, 1);
        CHECKS.due("1 and 2", s.carvedBy(0, 1), 6);
        // COSTS: 5 4 3 4 1, 5 6 2 4 5, 3 4 1 1 4; at 2 or at 3, from 2 or from 4.
        Checks.draw(s, 0, Checks.row(0, 0, 1, 3, 4), Checks.row(5, 3, 1, 2, 4), Checks.row(3, 2, 0, 2, 1));
        seams("2 and 3", s, 0, 2, 2, 2);
        CHECKS.due("2 and 3", s.carvedBy(0, 1), 6);
        Checks.draw(s, 0, Checks.row(10, 30));
        seams("of two", s, 0, 0);
    }

    private static void seamOfTiesAbove() {
        CHECKS.sentence("then in each row above the smallest x from which it can be so");
        ParallaxSheets s = Checks.drawn(Checks.row(3, 2, 4, 3), Checks.row(0, 2, 4, 3));
        // COSTS: 4 1 1 1, 5 4 1 1
        seams("1, 2 and 3 above 2", s, 0, 1, 2);
        CHECKS.due("1, 2 and 3 above 2", s.carvedBy(0, 1), 2);
        // COSTS: 4 1 3 5 6, 3 3 3 4 0, 5 3 3 4 5
        Checks.draw(s, 0, Checks.row(3, 0, 2, 1, 5), Checks.row(2, 0, 0, 3, 3), Checks.row(4, 1, 2, 2, 5));
        seams("0, 1 and 2 above 1", s, 0, 1, 0, 1);
        CHECKS.due("0, 1 and 2 above 1", s.carvedBy(0, 1), 7);
        s.fresh(0, 5, 4, 0);
        s.dot(0, 0, 0, 100);
        seams("round a bright corner", s, 0, 2, 1, 0, 0);
    }

    private static void seamOfTheSame() {
        CHECKS.sentence("The BEST SEAM .. of several ..: all VALUES the same");
        int[][] sides = {{1, 1}, {16, 1}, {1, 16}, {16, 16}};
        for (int[] side : sides) {
            for (int value : new int[] {0, 255}) {
                ParallaxSheets s = Checks.even(side[0], side[1], value);
                for (int y = 0; y < side[1]; y++) {
                    CHECKS.due("row " + y, s.seam(0, y), 0);
                }
                CHECKS.due("all of them", s.carvedBy(0, side[0] - 1), 0);
            }
        }
    }

    private static void seamHasOneFieldInEachRow() {
        CHECKS.sentence("seam throws IndexOutOfBoundsException if there is no such SHEET, or row");
        int[][] sides = {{1, 1}, {16, 1}, {1, 16}, {16, 16}, {5, 3}};
        for (int[] side : sides) {
            int h = side[1];
            ParallaxSheets s = Checks.even(side[0], h, 9);
            CHECKS.due("the first row", s.seam(0, 0), 0);
            CHECKS.due("the last row", s.seam(0, h - 1), 0);
            CHECKS.refuses("row -1", s, Checks.NO_PLACE, () -> s.seam(0, -1));
            CHECKS.refuses("row H", s, Checks.NO_PLACE, () -> s.seam(0, h));
            CHECKS.refuses("any row", s, Checks.NO_PLACE, () -> s.seam(0, Integer.MIN_VALUE));
            CHECKS.refuses("any row", s, Checks.NO_PLACE, () -> s.seam(0, Integer.MAX_VALUE));
        }
    }

    private static void carveDownTo1() {
        CHECKS.sentence("carve throws IllegalStateException if W is 1");
        for (int h = 1; h <= 16; h += 15) {
            ParallaxSheets s = Checks.even(16, h, 7);
            for (int w = 15; w >= 1; w--) {
                CHECKS.due("cost", s.carve(0), 0);
                CHECKS.isAll("carved", s, 0, w, h, 7);
            }
            CHECKS.refuses("W 1", s, Checks.NO_STATE, () -> s.carve(0));
            CHECKS.isAll("refused", s, 0, 1, h, 7);
        }
    }

    private static void carveAtTheLeftAndTheRight() {
        CHECKS.sentence("Takes the BEST SEAM out: what is to the right of it moves to the left.");
        ParallaxSheets s = Checks.drawn(Checks.row(2, 9, 9), Checks.row(2, 3, 9));
        CHECKS.due("at the right edge", s.carve(0), 6);
        CHECKS.shows("at the right edge", s, 0, Checks.row(2, 9), Checks.row(2, 3));
        ParallaxSheets left = powers();
        CHECKS.due("at the left edge", left.carve(0), 199);
        CHECKS.shows("at the left edge", left, 0, Checks.row(2, 4), Checks.row(16, 32), Checks.row(128, 255));
        Checks.draw(s, 0, Checks.row(3, 2, 4, 3), Checks.row(0, 2, 4, 3));
        CHECKS.due("aslant", s.carve(0), 2);
        CHECKS.shows("aslant", s, 0, Checks.row(3, 4, 3), Checks.row(0, 2, 3));
    }

    private static void carveOfTwo() {
        CHECKS.sentence("Returns what the SEAM cost: of W 2");
        ParallaxSheets s = Checks.drawn(Checks.row(10, 30));
        CHECKS.due("a row", s.carve(0), 20);
        CHECKS.shows("a row", s, 0, Checks.row(30));
        Checks.draw(s, 0, Checks.row(1, 2), Checks.row(4, 8));
        CHECKS.due("two rows", s.carve(0), 11);
        CHECKS.shows("two rows", s, 0, Checks.row(2), Checks.row(8));
    }

    private static void widenUpTo16() {
        CHECKS.sentence("widen throws IllegalStateException if W is 16");
        for (int h = 1; h <= 16; h += 15) {
            ParallaxSheets s = Checks.even(1, h, 255);
            for (int w = 2; w <= 16; w++) {
                CHECKS.due("cost", s.widen(0), 0);
                CHECKS.isAll("widened", s, 0, w, h, 255);
            }
            CHECKS.refuses("W 16", s, Checks.NO_STATE, () -> s.widen(0));
            CHECKS.isAll("refused", s, 0, 16, h, 255);
        }
    }

    private static void widenBesideTheSheet() {
        CHECKS.sentence("(that of the SEAM + that to the right of it, with BESIDE) / 2");
        ParallaxSheets s = Checks.drawn(Checks.row(2, 9, 9), Checks.row(2, 3, 9));
        CHECKS.due("at the right edge", s.widen(0), 6);
        CHECKS.shows("at the right edge", s, 0, Checks.row(2, 9, 9, 9), Checks.row(2, 3, 9, 9));
        Checks.draw(s, 0, Checks.row(40, 8, 4));
        CHECKS.due("at the right edge, where it differs from the left", s.widen(0), 4);
        CHECKS.shows("at the right edge, where it differs from the left", s, 0, Checks.row(40, 8, 4, 4));
        ParallaxSheets left = powers();
        CHECKS.due("at the left edge", left.widen(0), 199);
        CHECKS.shows("at the left edge", left, 0, Checks.row(1, 1, 2, 4), Checks.row(8, 12, 16, 32),
                Checks.row(64, 96, 128, 255));
        Checks.draw(s, 0, Checks.row(77));
        CHECKS.due("one field", s.widen(0), 0);
        CHECKS.shows("one field", s, 0, Checks.row(77, 77));
    }

    private static void widenIsCut() {
        CHECKS.sentence("(that of the SEAM + that to the right of it, with BESIDE) / 2; / is cut towards 0");
        int[][] pairsAndWant = {{5, 8, 6}, {8, 5, 6}, {255, 254, 254}, {0, 1, 0}, {255, 255, 255}, {0, 0, 0}, {0, 255, 127}};
        for (int[] p : pairsAndWant) {
            ParallaxSheets s = Checks.drawn(Checks.row(p[0], p[1]));
            CHECKS.due("cost", s.widen(0), Math.abs(p[0] - p[1]));
            CHECKS.shows("between", s, 0, Checks.row(p[0], p[2], p[1]));
        }
        ParallaxSheets s = Checks.drawn(Checks.row(3, 2, 4, 3), Checks.row(0, 2, 4, 3));
        CHECKS.due("aslant", s.widen(0), 2);
        CHECKS.shows("aslant", s, 0, Checks.row(3, 2, 3, 4, 3), Checks.row(0, 2, 4, 3, 3));
    }

    private static void partsAtFrom0To255() {
        CHECKS.sentence("partsAt throws IllegalArgumentException if ways is not 4 or 8, or t is not 0 to 255");
        ParallaxSheets s = Checks.drawn(Checks.row(255, 0, 254), Checks.row(0, 255, 0), Checks.row(127, 0, 128));
        int[][] tAndWant = {{0, 1, 1}, {1, 5, 1}, {127, 5, 1}, {128, 4, 1}, {129, 3, 1}, {254, 3, 1}, {255, 2, 1}};
        for (int[] t : tAndWant) {
            CHECKS.due("t " + t[0] + " by 4", s.partsAt(0, 4, t[0]), t[1]);
            CHECKS.due("t " + t[0] + " by 8", s.partsAt(0, 8, t[0]), t[2]);
        }
        for (int t : new int[] {-1, 256, Integer.MIN_VALUE, Integer.MAX_VALUE}) {
            CHECKS.refuses("t " + t, s, Checks.NO_ARGUMENT, () -> s.partsAt(0, 4, t));
            CHECKS.refuses("t " + t + " of sheet -1", s, Checks.NO_PLACE, () -> s.partsAt(-1, 4, t));
        }
    }

    private static void partsAtOf0IsAll() {
        CHECKS.sentence("if FIELDS were ON with a VALUE of at least t");
        int[][] sides = {{1, 1}, {16, 1}, {1, 16}, {16, 16}};
        for (int[] side : sides) {
            ParallaxSheets s = Checks.even(side[0], side[1], 0);
            CHECKS.due("0 at least 0", s.partsAt(0, 4, 0), 1);
            CHECKS.due("0 at least 1", s.partsAt(0, 8, 1), 0);
            s.fresh(0, side[0], side[1], 254);
            CHECKS.due("254 at least 254", s.partsAt(0, 8, 254), 1);
            CHECKS.due("254 at least 255", s.partsAt(0, 4, 255), 0);
            s.fresh(0, side[0], side[1], 255);
            CHECKS.due("255 at least 255", s.partsAt(0, 4, 255), 1);
        }
    }

    private static void partsAtChangesNothing() {
        CHECKS.sentence("by the last three nothing is changed");
        ParallaxSheets s = Checks.drawn(Checks.row(5, 200, 5), Checks.row(130, 9, 0));
        s.partsAt(0, 4, 0);
        s.partsAt(0, 8, 255);
        CHECKS.shows("values", s, 0, Checks.row(5, 200, 5), Checks.row(130, 9, 0));
        CHECKS.due("what is on, by 4", s.parts(0, 4), 2);
        CHECKS.due("what is on, by 8", s.parts(0, 8), 1);
        CHECKS.due("as parts() has it", s.partsAt(0, 4, 128), 2);
    }

    private static void carvedByFrom0ToWLess1() {
        CHECKS.sentence("carvedBy throws IllegalArgumentException if seams is not 0 to W - 1");
        int[][] sides = {{1, 1}, {1, 16}, {2, 1}, {16, 1}, {16, 16}, {5, 3}};
        for (int[] side : sides) {
            int w = side[0];
            ParallaxSheets s = Checks.even(w, side[1], 9);
            CHECKS.due("0", s.carvedBy(0, 0), 0);
            CHECKS.due("W - 1", s.carvedBy(0, w - 1), 0);
            CHECKS.refuses("-1", s, Checks.NO_ARGUMENT, () -> s.carvedBy(0, -1));
            CHECKS.refuses("W", s, Checks.NO_ARGUMENT, () -> s.carvedBy(0, w));
            CHECKS.refuses("any", s, Checks.NO_ARGUMENT, () -> s.carvedBy(0, Integer.MAX_VALUE));
            CHECKS.refuses("any", s, Checks.NO_ARGUMENT, () -> s.carvedBy(0, Integer.MIN_VALUE));
            CHECKS.refuses("-1 of sheet 4", s, Checks.NO_PLACE, () -> s.carvedBy(4, -1));
        }
    }

    private static void carvedByIsOneAfterTheOther() {
        CHECKS.sentence("Returns what that many SEAMS would cost together, taken out one after the other.");
        ParallaxSheets s = Checks.drawn(Checks.row(10, 30));
        CHECKS.due("of two, one", s.carvedBy(0, 1), 20);
        // 20 21 5 59 55; without 31: 20 25 60 55; without 10: 5 60 55; without 30: 55 55.
        Checks.draw(s, 0, Checks.row(10, 30, 31, 35, 90));
        int[] want = {0, 5, 25, 30, 85};
        for (int seams = 0; seams < want.length; seams++) {
            CHECKS.due("by " + seams, s.carvedBy(0, seams), want[seams]);
        }
        ParallaxSheets large = Checks.eachValueOnce();
        large.shade(0, 3, -2, 11);
        int all = large.carvedBy(0, 15);
        int one = 0;
        for (int i = 0; i < 15; i++) {
            one += large.carve(0);
        }
        CHECKS.due("as carved", all, one);
        CHECKS.due("W then", large.sheet(0, 0), 1);
    }

    private static void carvedByChangesNothing() {
        CHECKS.sentence("by the last three nothing is changed");
        ParallaxSheets s = powers();
        s.carvedBy(0, 2);
        s.digest();
        CHECKS.shows("values", s, 0, Checks.row(1, 2, 4), Checks.row(8, 16, 32), Checks.row(64, 128, 255));
        CHECKS.due("the seam", s.seam(0, 2), 0);
        CHECKS.due("what it costs", s.carve(0), 199);
        CHECKS.isAll("the others", s, 3, 8, 8, 0);
    }

    /** d as the document tells it, with numbers that never wrap around, cut to 64 bits at the end. */
    private static BigInteger exact(List<Integer> numbers) {
        BigInteger d = BigInteger.valueOf(58080);
        for (int v : numbers) {
            d = d.multiply(BigInteger.valueOf(31)).add(BigInteger.valueOf(v));
        }
        return d;
    }

    private static void add(List<Integer> numbers, int... more) {
        for (int v : more) {
            numbers.add(v);
        }
    }

    private static void addOneField(List<Integer> numbers, int value) {
        int on = value >= 128 ? 1 : 0;
        add(numbers, 1, 1, value, value, value, 0, on, 0, on, 0, 0, on, value);
    }

    private static void digestOfOneField() {
        CHECKS.sentence("carvedBy() of 1, if W is above 1");
        ParallaxSheets s = new ParallaxSheets();
        List<Integer> numbers = new ArrayList<>();
        int[] values = {0, 127, 128, 255};
        for (int sheet = 0; sheet <= 3; sheet++) {
            s.fresh(sheet, 1, 1, values[sheet]);
            addOneField(numbers, values[sheet]);
        }
        CHECKS.due("four of one field", s.digest(), exact(numbers).longValue());
    }

    private static void digestOfSmallSheets() {
        CHECKS.sentence("SHEET by SHEET sheet() of 0 to 5; parts() of 4, holes() of 4, parts() of 8, holes() of 8; "
                + "each seam(); carvedBy() of 1, ..; far() of 2 of each FIELD whose x is its y; then .. the VALUE");
        ParallaxSheets s = Checks.drawn(Checks.row(10, 200));
        List<Integer> numbers = new ArrayList<>();
        add(numbers, 2, 1, 10, 200, 210, 11, 1, 0, 1, 0, 0, 190, 0, 10, 200);
        Checks.draw(s, 1, Checks.row(200), Checks.row(255));
        add(numbers, 1, 2, 200, 255, 455, 201, 1, 0, 1, 0, 0, 0, 1, 200, 255);
        s.fresh(2, 3, 3, 130);
        s.dot(2, 1, 1, 100);
        // COSTS: 0 30 0, 30 0 30, 0 30 0; the SEAM goes over the middle.
        add(numbers, 3, 3, 100, 130, 1140, 101, 1, 1, 1, 1, 0, 1, 0, 0, 2, 0, 2);
        add(numbers, 130, 130, 130, 130, 100, 130, 130, 130, 130);
        Checks.draw(s, 3, Checks.row(255, 0, 255), Checks.row(0, 255, 0));
        // COSTS: 510 255 510, 510 255 510; FAR 1 and 1
        add(numbers, 3, 2, 0, 255, 765, 1, 3, 0, 1, 0, 1, 1, 510, 1, 1, 255, 0, 255, 0, 255, 0);
        CHECKS.due("four small ones", s.digest(), exact(numbers).longValue());
    }

    private static void digestOfHolesByEachWay() {
        CHECKS.sentence("parts() of 4, holes() of 4, parts() of 8, holes() of 8");
        ParallaxSheets s = Checks.drawn("##.", "#.#", "###");
        List<Integer> numbers = new ArrayList<>();
        // COSTS: 0 2 2, 1 0 2, 0 1 0; the hole leaks over the corner by 4 alone.
        add(numbers, 3, 3, 127, 128, 1150, 128, 1, 0, 1, 1, 0, 1, 0, 0, 2, 0, 2);
        add(numbers, 128, 128, 127, 128, 127, 128, 128, 128, 128);
        for (int sheet = 1; sheet <= 3; sheet++) {
            s.fresh(sheet, 1, 1, sheet);
            addOneField(numbers, sheet);
        }
        CHECKS.due("a hole by 8 alone", s.digest(), exact(numbers).longValue());
    }

    private static void digestOfTheLargest() {
        CHECKS.sentence("digest of SHEETS of 16 times 16, with no FIELD that is ON, and with every FIELD ON");
        ParallaxSheets s = new ParallaxSheets();
        List<Integer> numbers = new ArrayList<>();
        int[] values = {255, 0, 128, 127};
        for (int sheet = 0; sheet <= 3; sheet++) {
            int value = values[sheet];
            int on = value >= 128 ? 1 : 0;
            s.fresh(sheet, 16, 16, value);
            add(numbers, 16, 16, value, value, 256 * value, 0, on, 0, on, 0);
            // 16 of seam() and one of carvedBy()
            add(numbers, new int[17]);
            for (int i = 0; i < 16; i++) {
                add(numbers, on * Math.min(i + 1, 16 - i) * Math.min(i + 1, 16 - i));
            }
            for (int i = 0; i < 256; i++) {
                add(numbers, value);
            }
        }
        CHECKS.due("four of the largest", s.digest(), exact(numbers).longValue());
    }

    private static void digestWrapsAround() {
        CHECKS.sentence("d becomes d * 31 + v, which wraps around as a 64-bit integer");
        boolean below0 = false;
        boolean above0 = false;
        for (int value = 0; value < 20; value++) {
            ParallaxSheets s = new ParallaxSheets();
            List<Integer> numbers = new ArrayList<>();
            for (int sheet = 0; sheet <= 3; sheet++) {
                s.fresh(sheet, 1, 1, value);
                addOneField(numbers, value);
            }
            CHECKS.tell(exact(numbers).bitLength() > 200, "the sum does not wrap around");
            CHECKS.due("four of " + value, s.digest(), exact(numbers).longValue());
            below0 |= s.digest() < 0;
            above0 |= s.digest() > 0;
        }
        CHECKS.tell(below0 && above0, "no sum wrapped around to below 0, or none to above 0");
    }

    private static void digestIsOfSheetsAlone() {
        CHECKS.sentence("A number d .. for each of the following numbers: KERNEL, DIVISOR and BASE are none of them");
        ParallaxSheets s = powers();
        long before = s.digest();
        s.kernel(0, 9);
        s.divide(99, 255);
        CHECKS.due("as before", s.digest(), before);
        s.dot(3, 7, 7, 1);
        CHECKS.tell(s.digest() != before, "the last VALUE is not in it");
        s.dot(3, 7, 7, 0);
        CHECKS.due("as before", s.digest(), before);
    }
}
