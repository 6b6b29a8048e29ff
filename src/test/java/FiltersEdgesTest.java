/** Each sentence of promises 10 to 18 that names a boundary; what FILTERS do is in TermsEdgesTest. */
public final class FiltersEdgesTest {
    private static final Checks CHECKS = new Checks();

    public static void main(String[] args) {
        kernelHas9Places();
        kernelWeightsAtTheirLimits();
        divideAtItsLimits();
        divideAnswersTheDivisorBefore();
        filterFrom0To8();
        filterCountsWhatHasAnotherValue();
        negativeFrom0To255();
        atTheCutIs255();
        everywhereIfTheCutIs0();
        valuesFrom0To3();
        valueAtTheLastField();
        sheetFrom0To5();
        sheetOfOneFieldAndOfTheLargest();
        countBothEnds();
        countOfAnyNumbers();
        orderedFromTheFirstToTheLast();
        orderedOfTies();
        differenceIsNotCut();
        differenceOfNoneAndOfTheGreatest();
        CHECKS.close();
    }

    private static void kernelHas9Places() {
        CHECKS.sentence("Throws IndexOutOfBoundsException if there is no such place");
        ParallaxSheets s = new ParallaxSheets();
        for (int place = 0; place <= 8; place++) {
            CHECKS.due("at first", s.kernel(place, place - 4), 1);
        }
        for (int place = 0; place <= 8; place++) {
            CHECKS.due("the one before", s.kernel(place, 1), place - 4);
        }
        for (int place : new int[] {-1, 9, Integer.MIN_VALUE, Integer.MAX_VALUE}) {
            CHECKS.refuses("place " + place, s, Checks.NO_PLACE, () -> s.kernel(place, 1));
            CHECKS.refuses("place " + place + " and weight 10", s, Checks.NO_PLACE, () -> s.kernel(place, 10));
        }
    }

    private static void kernelWeightsAtTheirLimits() {
        CHECKS.sentence("Throws IllegalArgumentException if weight is not -9 to 9");
        ParallaxSheets s = new ParallaxSheets();
        for (int place = 0; place <= 8; place++) {
            int at = place;
            s.kernel(place, 9);
            CHECKS.refuses("weight 10", s, Checks.NO_ARGUMENT, () -> s.kernel(at, 10));
            CHECKS.due("9 is still there", s.kernel(place, -9), 9);
            CHECKS.refuses("weight -10", s, Checks.NO_ARGUMENT, () -> s.kernel(at, -10));
            CHECKS.due("-9 is still there", s.kernel(place, 0), -9);
        }
    }

    private static void divideAtItsLimits() {
        CHECKS.sentence("Throws IllegalArgumentException if divisor is not 1 to 99, or base is not 0 to 255");
        ParallaxSheets s = Checks.even(2, 2, 22);
        CHECKS.due("99 and 255", s.divide(99, 255), 9);
        CHECKS.due("1 and 0", s.divide(1, 0), 99);
        CHECKS.due("99 and 5", s.divide(99, 5), 1);
        int[][] wrong = {{0, 0}, {100, 0}, {-1, 0}, {1, -1}, {1, 256}, {0, 256},
            {Integer.MIN_VALUE, 0}, {Integer.MAX_VALUE, 0}, {1, Integer.MIN_VALUE}, {1, Integer.MAX_VALUE}};
        for (int[] w : wrong) {
            CHECKS.refuses("divide", s, Checks.NO_ARGUMENT, () -> s.divide(w[0], w[1]));
        }
        s.filter(0, 0);
        CHECKS.isAll("9 * 22 / 99 + 5 is what was put last", s, 0, 2, 2, 7);
    }

    private static void divideAnswersTheDivisorBefore() {
        CHECKS.sentence("Returns DIVISOR before.");
        ParallaxSheets s = new ParallaxSheets();
        int before = 9;
        for (int divisor = 1; divisor <= 99; divisor++) {
            CHECKS.due("divisor before " + divisor, s.divide(divisor, 255 - divisor), before);
            before = divisor;
        }
    }

    private static void filterFrom0To8() {
        CHECKS.sentence("Throws IllegalArgumentException if how is not 0 to 8");
        for (int how = 0; how <= 8; how++) {
            ParallaxSheets s = Checks.even(1, 1, 255);
            CHECKS.due("of one field, how " + how, s.filter(0, how), how == 2 ? 1 : 0);
            CHECKS.isAll("of one field, how " + how, s, 0, 1, 1, how == 2 ? 0 : 255);
            s.fresh(3, 16, 16, 255);
            CHECKS.due("of the largest, how " + how, s.filter(3, how), how == 2 ? 256 : 0);
            CHECKS.isAll("of the largest, how " + how, s, 3, 16, 16, how == 2 ? 0 : 255);
        }
        ParallaxSheets s = Checks.drawn(Checks.row(1, 9, 1));
        CHECKS.refuses("how -1", s, Checks.NO_ARGUMENT, () -> s.filter(0, -1));
        CHECKS.refuses("how 9", s, Checks.NO_ARGUMENT, () -> s.filter(0, 9));
        CHECKS.refuses("sheet 4, how 9", s, Checks.NO_PLACE, () -> s.filter(4, 9));
    }

    private static void filterCountsWhatHasAnotherValue() {
        CHECKS.sentence("Returns how many FIELDS have another VALUE then.");
        ParallaxSheets s = Checks.drawn(Checks.row(9, 9, 9, 9, 0, 9, 9, 9, 9));
        for (int step = 1; step <= 4; step++) {
            CHECKS.due("two more, step " + step, s.filter(0, 3), 2);
        }
        CHECKS.due("none more", s.filter(0, 3), 0);
    }

    private static void negativeFrom0To255() {
        CHECKS.sentence("0 255 - VALUE");
        ParallaxSheets s = Checks.drawn(Checks.row(0, 1, 127, 128, 254, 255));
        CHECKS.due("all", s.values(0, 0), 6);
        CHECKS.shows("the other way", s, 0, Checks.row(255, 254, 128, 127, 1, 0));
        ParallaxSheets each = Checks.eachValueOnce();
        CHECKS.due("each value", each.values(0, 0), 256);
        CHECKS.due("each value", each.value(0, 3, 5), 255 - 83);
    }

    private static void atTheCutIs255() {
        CHECKS.sentence("3 255 where the VALUE is not below the CUT, otherwise 0");
        ParallaxSheets s = Checks.drawn(Checks.row(50, 100, 51, 99, 100));
        // t 51: 150 * 150 / 4 = 5625; t 52 to 99: 295 * 295 / 6 = 14504; t 100: 200 * 200 / 6 = 6666
        CHECKS.due("the cut", s.sheet(0, 5), 52);
        CHECKS.due("all", s.values(0, 3), 5);
        CHECKS.shows("in two", s, 0, Checks.row(0, 255, 0, 255, 255));
        Checks.draw(s, 0, Checks.row(0, 1, 0));
        CHECKS.due("the value of the cut itself is 255", s.values(0, 3), 1);
        CHECKS.shows("the value of the cut itself", s, 0, Checks.row(0, 255, 0));
        Checks.draw(s, 0, Checks.row(254, 255));
        CHECKS.due("255 at the cut 255", s.values(0, 3), 1);
        CHECKS.shows("255 at the cut 255", s, 0, Checks.row(0, 255));
        ParallaxSheets each = Checks.eachValueOnce();
        CHECKS.due("at 128; 0 and 255 stay", each.values(0, 3), 254);
        CHECKS.due("below", each.count(0, 0, 0), 128);
        CHECKS.due("not below", each.count(0, 255, 255), 128);
        CHECKS.due("128 itself", each.value(0, 0, 8), 255);
    }

    private static void everywhereIfTheCutIs0() {
        CHECKS.sentence("255 where the VALUE is not below the CUT (everywhere, if that is 0)");
        for (int value : new int[] {0, 1, 254, 255}) {
            ParallaxSheets s = Checks.even(16, 16, value);
            CHECKS.due("of " + value, s.values(0, 3), value == 255 ? 0 : 256);
            CHECKS.isAll("of " + value, s, 0, 16, 16, 255);
            s.fresh(1, 1, 1, value);
            CHECKS.due("of one field", s.values(1, 3), value == 255 ? 0 : 1);
            CHECKS.isAll("of one field", s, 1, 1, 1, 255);
        }
    }

    private static void valuesFrom0To3() {
        CHECKS.sentence("Throws IllegalArgumentException if how is not 0 to 3");
        ParallaxSheets s = Checks.drawn(Checks.row(1, 9, 4));
        CHECKS.refuses("how -1", s, Checks.NO_ARGUMENT, () -> s.values(0, -1));
        CHECKS.refuses("how 4", s, Checks.NO_ARGUMENT, () -> s.values(0, 4));
        CHECKS.refuses("sheet -1, how 4", s, Checks.NO_PLACE, () -> s.values(-1, 4));
        CHECKS.refuses("sheet 4, how -1", s, Checks.NO_PLACE, () -> s.values(4, -1));
    }

    private static void valueAtTheLastField() {
        CHECKS.sentence("value throws IndexOutOfBoundsException if there is no such SHEET, or FIELD");
        ParallaxSheets s = Checks.eachValueOnce();
        CHECKS.due("the first", s.value(0, 0, 0), 0);
        CHECKS.due("the end of the first row", s.value(0, 15, 0), 15);
        CHECKS.due("the start of the last row", s.value(0, 0, 15), 240);
        CHECKS.due("the last", s.value(0, 15, 15), 255);
        int[][] wrong = {{-1, 0}, {16, 0}, {0, -1}, {0, 16}, {16, 16}, {-1, -1}, {-1, 1}, {16, -1},
            {Integer.MIN_VALUE, 0}, {0, Integer.MAX_VALUE}};
        for (int[] w : wrong) {
            CHECKS.refuses("value at " + w[0] + ", " + w[1], s, Checks.NO_PLACE, () -> s.value(0, w[0], w[1]));
        }
    }

    private static void sheetFrom0To5() {
        CHECKS.sentence("sheet throws IllegalArgumentException if what is not 0 to 5");
        ParallaxSheets s = Checks.drawn(Checks.row(3, 200, 201), Checks.row(4, 202, 5));
        int[] want = {3, 2, 3, 202, 615, 6};
        for (int what = 0; what <= 5; what++) {
            CHECKS.due("what " + what, s.sheet(0, what), want[what]);
        }
        CHECKS.refuses("what -1", s, Checks.NO_ARGUMENT, () -> s.sheet(0, -1));
        CHECKS.refuses("what 6", s, Checks.NO_ARGUMENT, () -> s.sheet(0, 6));
        CHECKS.refuses("sheet 4, what 6", s, Checks.NO_PLACE, () -> s.sheet(4, 6));
    }

    private static void sheetOfOneFieldAndOfTheLargest() {
        CHECKS.sentence("0 W, 1 H, 2 the least VALUE, 3 the greatest VALUE, 4 the sum of all, 5 the CUT");
        int[][] sidesAndValue = {{1, 1, 0}, {1, 1, 255}, {16, 1, 9}, {1, 16, 9}, {16, 16, 255}, {16, 16, 0}};
        for (int[] m : sidesAndValue) {
            ParallaxSheets s = Checks.even(m[0], m[1], m[2]);
            int[] want = {m[0], m[1], m[2], m[2], m[0] * m[1] * m[2], 0};
            for (int what = 0; what <= 5; what++) {
                CHECKS.due("of " + m[0] + " times " + m[1] + ", what " + what, s.sheet(0, what), want[what]);
            }
        }
        ParallaxSheets s = Checks.eachValueOnce();
        int[] want = {16, 16, 0, 255, 255 * 128, 128};
        for (int what = 0; what <= 5; what++) {
            CHECKS.due("each value once, what " + what, s.sheet(0, what), want[what]);
        }
    }

    private static void countBothEnds() {
        CHECKS.sentence("Returns how many FIELDS have a VALUE from low to high");
        ParallaxSheets s = Checks.eachValueOnce();
        CHECKS.due("all", s.count(0, 0, 255), 256);
        CHECKS.due("none of 256", s.count(0, 256, 256), 0);
        CHECKS.due("none of -1", s.count(0, -1, -1), 0);
        CHECKS.due("one", s.count(0, 0, 0), 1);
        CHECKS.due("one", s.count(0, 255, 255), 1);
        CHECKS.due("two", s.count(0, 100, 101), 2);
        CHECKS.due("without the ends", s.count(0, 1, 254), 254);
        CHECKS.due("one field, in", Checks.even(1, 1, 7).count(0, 7, 7), 1);
        CHECKS.due("one field, below", Checks.even(1, 1, 7).count(0, 8, 300), 0);
        CHECKS.due("one field, above", Checks.even(1, 1, 7).count(0, -300, 6), 0);
    }

    private static void countOfAnyNumbers() {
        CHECKS.sentence("(any numbers; 0, if low is above high)");
        ParallaxSheets s = Checks.eachValueOnce();
        CHECKS.due("all numbers", s.count(0, Integer.MIN_VALUE, Integer.MAX_VALUE), 256);
        CHECKS.due("from 255", s.count(0, 255, Integer.MAX_VALUE), 1);
        CHECKS.due("to 0", s.count(0, Integer.MIN_VALUE, 0), 1);
        CHECKS.due("low above high by 1", s.count(0, 101, 100), 0);
        CHECKS.due("low above high", s.count(0, 255, 0), 0);
        CHECKS.due("low above high by all", s.count(0, Integer.MAX_VALUE, Integer.MIN_VALUE), 0);
        CHECKS.refuses("sheet 4, low above high", s, Checks.NO_PLACE, () -> s.count(4, 1, 0));
    }

    private static void orderedFromTheFirstToTheLast() {
        CHECKS.sentence("k: a number, from 0 to W * H - 1; IndexOutOfBoundsException if .. it has not so many FIELDS");
        ParallaxSheets s = Checks.eachValueOnce();
        s.values(0, 0);
        for (int k : new int[] {0, 1, 127, 128, 254, 255}) {
            CHECKS.due("of each value once", s.ordered(0, k), k);
        }
        CHECKS.refuses("k 256", s, Checks.NO_PLACE, () -> s.ordered(0, 256));
        CHECKS.refuses("k -1", s, Checks.NO_PLACE, () -> s.ordered(0, -1));
        int[][] sides = {{1, 1}, {16, 1}, {1, 16}, {3, 2}};
        for (int[] side : sides) {
            int fields = side[0] * side[1];
            ParallaxSheets even = Checks.even(side[0], side[1], 66);
            CHECKS.due("the first", even.ordered(0, 0), 66);
            CHECKS.due("the last", even.ordered(0, fields - 1), 66);
            CHECKS.refuses("k W * H", even, Checks.NO_PLACE, () -> even.ordered(0, fields));
            CHECKS.refuses("k of all numbers", even, Checks.NO_PLACE, () -> even.ordered(0, Integer.MAX_VALUE));
            CHECKS.refuses("k of all numbers", even, Checks.NO_PLACE, () -> even.ordered(0, Integer.MIN_VALUE));
        }
    }

    private static void orderedOfTies() {
        CHECKS.sentence("Returns the VALUE with this number, if all are put in order, the least one first.");
        ParallaxSheets s = Checks.drawn(Checks.row(255, 0, 7), Checks.row(0, 255, 7));
        int[] want = {0, 0, 7, 7, 255, 255};
        for (int k = 0; k < want.length; k++) {
            CHECKS.due("ordered " + k, s.ordered(0, k), want[k]);
        }
    }

    private static void differenceIsNotCut() {
        CHECKS.sentence("the sum of the differences of their VALUES, each without a sign, by W * H, not cut");
        ParallaxSheets s = Checks.even(16, 16, 100);
        s.fresh(1, 16, 16, 100);
        s.dot(1, 15, 15, 101);
        CHECKS.dueExactly("1 / 256", s.difference(0, 1), 0.00390625);
        CHECKS.dueExactly("1 / 256 the other way", s.difference(1, 0), 0.00390625);
        s.dot(1, 0, 0, 98);
        CHECKS.dueExactly("each without a sign", s.difference(0, 1), 3.0 / 256.0);
        Checks.draw(s, 2, Checks.row(0, 0, 0));
        Checks.draw(s, 3, Checks.row(0, 1, 0));
        CHECKS.dueExactly("1 / 3", s.difference(2, 3), 1.0 / 3.0);
    }

    private static void differenceOfNoneAndOfTheGreatest() {
        CHECKS.sentence("Returns the sum of the differences .. by W * H: none, and the greatest");
        int[][] sides = {{1, 1}, {16, 1}, {1, 16}, {16, 16}};
        for (int[] side : sides) {
            ParallaxSheets s = Checks.even(side[0], side[1], 255);
            s.fresh(1, side[0], side[1], 0);
            s.fresh(2, side[0], side[1], 255);
            CHECKS.dueExactly("the greatest", s.difference(0, 1), 255.0);
            CHECKS.dueExactly("the greatest the other way", s.difference(1, 0), 255.0);
            CHECKS.dueExactly("none", s.difference(0, 2), 0.0);
            CHECKS.dueExactly("from itself", s.difference(0, 0), 0.0);
        }
    }
}
