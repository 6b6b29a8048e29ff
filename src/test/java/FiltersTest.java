/** Promises 10 to 18: filters and values. */
public final class FiltersTest {
    private static final Checks CHECKS = new Checks();

    public static void main(String[] args) {
        promise10Kernel();
        promise11Divide();
        promise12Weights();
        promise12MedianAndEdges();
        promise12LeastAndGreatest();
        promise12OpeningAndClosing();
        promise12Refuses();
        promise13Values();
        promise13Cut();
        promise14Value();
        promise15Sheet();
        promise16Count();
        promise17Ordered();
        promise18Difference();
        CHECKS.close();
    }

    private static ParallaxSheets tens() {
        return Checks.drawn(Checks.row(10, 20, 30), Checks.row(40, 50, 60), Checks.row(70, 80, 90));
    }

    private static void promise10Kernel() {
        ParallaxSheets s = tens();
        CHECKS.due("kernel 0", s.kernel(0, -9), 1);
        CHECKS.due("kernel 8", s.kernel(8, 9), 1);
        CHECKS.refuses("place -1", s, Checks.NO_PLACE, () -> s.kernel(-1, 10));
        CHECKS.refuses("place 9", s, Checks.NO_PLACE, () -> s.kernel(9, 10));
        CHECKS.refuses("weight 10", s, Checks.NO_ARGUMENT, () -> s.kernel(8, 10));
        CHECKS.refuses("weight -10", s, Checks.NO_ARGUMENT, () -> s.kernel(0, -10));
        CHECKS.due("kernel 0 as put", s.kernel(0, 0), -9);
        CHECKS.due("kernel 8 as put", s.kernel(8, 0), 9);
        for (int place = 0; place < 9; place++) {
            s.kernel(place, 0);
        }
        s.kernel(2, 1);
        s.divide(1, 0);
        s.filter(0, 0);
        CHECKS.shows("place 2 is up to the right", s, 0,
                Checks.row(20, 30, 30), Checks.row(20, 30, 30), Checks.row(50, 60, 60));
    }

    private static void promise11Divide() {
        ParallaxSheets s = new ParallaxSheets();
        s.fresh(0, 1, 1, 100);
        CHECKS.due("divide", s.divide(99, 255), 9);
        CHECKS.due("divide", s.divide(1, 0), 99);
        CHECKS.due("divide", s.divide(10, 7), 1);
        CHECKS.refuses("divisor 0", s, Checks.NO_ARGUMENT, () -> s.divide(0, 9));
        CHECKS.refuses("divisor 100", s, Checks.NO_ARGUMENT, () -> s.divide(100, 9));
        CHECKS.refuses("base -1", s, Checks.NO_ARGUMENT, () -> s.divide(3, -1));
        CHECKS.refuses("base 256", s, Checks.NO_ARGUMENT, () -> s.divide(3, 256));
        CHECKS.due("the base and the divisor count", s.filter(0, 0), 1);
        CHECKS.due("900 / 10 + 7", s.value(0, 0, 0), 97);
        CHECKS.due("nothing changed by what was refused", s.divide(9, 0), 10);
    }

    private static void promise12Weights() {
        ParallaxSheets s = tens();
        CHECKS.due("weights", s.filter(0, 0), 8);
        CHECKS.shows("weights", s, 0, Checks.row(23, 30, 36), Checks.row(43, 50, 56), Checks.row(63, 70, 76));
        ParallaxSheets one = Checks.drawn(Checks.row(10, 0, 255));
        for (int place = 0; place < 9; place++) {
            one.kernel(place, place == 4 ? -1 : 0);
        }
        one.divide(7, 20);
        CHECKS.due("cut towards 0, kept at 0", one.filter(0, 0), 3);
        CHECKS.shows("cut towards 0, kept at 0", one, 0, Checks.row(19, 20, 0));
        one.kernel(4, 9);
        one.divide(1, 250);
        CHECKS.due("kept at 255", one.filter(0, 0), 3);
        CHECKS.shows("kept at 255", one, 0, Checks.row(255, 255, 250));
    }

    private static void promise12MedianAndEdges() {
        ParallaxSheets s = tens();
        CHECKS.due("median", s.filter(0, 1), 4);
        CHECKS.shows("median", s, 0, Checks.row(20, 30, 30), Checks.row(40, 50, 60), Checks.row(70, 70, 80));
        ParallaxSheets edges = tens();
        CHECKS.due("edges", edges.filter(0, 2), 9);
        CHECKS.shows("edges", edges, 0, Checks.row(40, 50, 40), Checks.row(70, 80, 70), Checks.row(40, 50, 40));
        ParallaxSheets bright = Checks.drawn(Checks.row(0, 0, 255), Checks.row(0, 0, 255), Checks.row(255, 255, 255));
        bright.filter(0, 2);
        CHECKS.due("1530 / 4 is kept at 255", bright.value(0, 1, 1), 255);
        ParallaxSheets down = Checks.drawn(Checks.row(9, 5, 0), Checks.row(9, 5, 0), Checks.row(9, 5, 0));
        down.filter(0, 2);
        CHECKS.shows("without a sign, cut", down, 0, Checks.row(4, 9, 5), Checks.row(4, 9, 5), Checks.row(4, 9, 5));
    }

    private static void promise12LeastAndGreatest() {
        ParallaxSheets s = tens();
        s.copy(0, 1);
        s.copy(0, 2);
        s.copy(0, 3);
        CHECKS.due("least of the nine", s.filter(0, 3), 8);
        CHECKS.shows("least of the nine", s, 0, Checks.row(10, 10, 20), Checks.row(10, 10, 20), Checks.row(40, 40, 50));
        CHECKS.due("least of the cross", s.filter(1, 4), 8);
        CHECKS.shows("least of the cross", s, 1, Checks.row(10, 10, 20), Checks.row(10, 20, 30), Checks.row(40, 50, 60));
        CHECKS.due("greatest of the nine", s.filter(2, 5), 8);
        CHECKS.shows("greatest of the nine", s, 2,
                Checks.row(50, 60, 60), Checks.row(80, 90, 90), Checks.row(80, 90, 90));
        CHECKS.due("greatest of the cross", s.filter(3, 6), 8);
        CHECKS.shows("greatest of the cross", s, 3,
                Checks.row(40, 50, 60), Checks.row(70, 80, 90), Checks.row(80, 90, 90));
        Checks.draw(s, 0, Checks.row(1, 5, 9), Checks.row(5, 2, 5), Checks.row(9, 5, 9));
        s.copy(0, 1);
        s.filter(0, 4);
        CHECKS.due("the middle is of the cross, not the corner", s.value(0, 1, 1), 2);
        s.dot(1, 1, 1, 7);
        s.filter(1, 6);
        CHECKS.due("the middle is of the cross, not the corner", s.value(1, 1, 1), 7);
    }

    private static void promise12OpeningAndClosing() {
        ParallaxSheets s = new ParallaxSheets();
        s.fresh(0, 7, 7, 50);
        s.box(0, 0, 0, 2, 2, 200);
        s.box(0, 4, 4, 4, 6, 90);
        CHECKS.due("closing fills nothing out here", s.filter(0, 8), 0);
        CHECKS.due("opening takes the narrow one away", s.filter(0, 7), 3);
        CHECKS.due("the square stays", s.count(0, 200, 200), 9);
        s.dot(0, 1, 1, 20);
        s.dot(0, 5, 3, 20);
        CHECKS.due("closing fills the holes", s.filter(0, 8), 2);
        CHECKS.due("the square is whole", s.count(0, 200, 200), 9);
        CHECKS.due("the ground is whole", s.count(0, 50, 50), 40);
        s.dot(0, 1, 1, 20);
        CHECKS.due("opening makes the hole wider", s.filter(0, 7), 8);
    }

    private static void promise12Refuses() {
        ParallaxSheets s = tens();
        CHECKS.refuses("no sheet", s, Checks.NO_PLACE, () -> s.filter(4, 9));
        CHECKS.refuses("how 9", s, Checks.NO_ARGUMENT, () -> s.filter(0, 9));
        CHECKS.refuses("how -1", s, Checks.NO_ARGUMENT, () -> s.filter(0, -1));
    }

    private static void promise13Values() {
        ParallaxSheets s = Checks.drawn(Checks.row(0, 100, 255));
        CHECKS.due("negative", s.values(0, 0), 3);
        CHECKS.shows("negative", s, 0, Checks.row(255, 155, 0));
        Checks.draw(s, 0, Checks.row(10, 20, 40));
        CHECKS.due("stretch", s.values(0, 1), 3);
        CHECKS.shows("stretch", s, 0, Checks.row(0, 85, 255));
        CHECKS.due("stretched already", s.values(0, 1), 0);
        Checks.draw(s, 0, Checks.row(3, 4, 6));
        s.values(0, 1);
        CHECKS.shows("stretch", s, 0, Checks.row(0, 85, 255));
        s.fresh(0, 2, 2, 7);
        CHECKS.due("stretch of one value", s.values(0, 1), 0);
        CHECKS.due("even of one value", s.values(0, 2), 4);
        CHECKS.due("even of one value", s.count(0, 255, 255), 4);
        Checks.draw(s, 0, Checks.row(5, 9), Checks.row(7, 5));
        CHECKS.due("even", s.values(0, 2), 4);
        CHECKS.shows("even", s, 0, Checks.row(127, 255), Checks.row(191, 127));
        CHECKS.refuses("no sheet", s, Checks.NO_PLACE, () -> s.values(4, 4));
        CHECKS.refuses("how 4", s, Checks.NO_ARGUMENT, () -> s.values(0, 4));
        CHECKS.refuses("how -1", s, Checks.NO_ARGUMENT, () -> s.values(0, -1));
    }

    private static void promise13Cut() {
        ParallaxSheets s = Checks.drawn(Checks.row(10, 12, 200, 202));
        CHECKS.due("cut in two", s.values(0, 3), 4);
        CHECKS.shows("cut in two", s, 0, Checks.row(0, 0, 255, 255));
        CHECKS.due("cut again", s.values(0, 3), 0);
        s.fresh(0, 2, 1, 0);
        CHECKS.due("cut of one value", s.values(0, 3), 2);
        CHECKS.shows("cut of one value", s, 0, Checks.row(255, 255));
        Checks.draw(s, 0, Checks.row(30, 31, 30));
        CHECKS.due("just at the cut", s.values(0, 3), 3);
        CHECKS.shows("just at the cut", s, 0, Checks.row(0, 255, 0));
    }

    private static void promise14Value() {
        ParallaxSheets s = tens();
        CHECKS.due("value", s.value(0, 2, 1), 60);
        CHECKS.due("value", s.value(0, 1, 2), 80);
        CHECKS.refuses("no sheet", s, Checks.NO_PLACE, () -> s.value(-1, 0, 0));
        CHECKS.refuses("no sheet", s, Checks.NO_PLACE, () -> s.value(4, 0, 0));
        CHECKS.refuses("x 3", s, Checks.NO_PLACE, () -> s.value(0, 3, 0));
        CHECKS.refuses("x -1", s, Checks.NO_PLACE, () -> s.value(0, -1, 0));
        CHECKS.refuses("y 3", s, Checks.NO_PLACE, () -> s.value(0, 0, 3));
        CHECKS.refuses("y -1", s, Checks.NO_PLACE, () -> s.value(0, 0, -1));
    }

    private static void promise15Sheet() {
        ParallaxSheets s = Checks.drawn(Checks.row(12, 200, 11), Checks.row(202, 10, 12));
        CHECKS.due("W", s.sheet(0, 0), 3);
        CHECKS.due("H", s.sheet(0, 1), 2);
        CHECKS.due("least", s.sheet(0, 2), 10);
        CHECKS.due("greatest", s.sheet(0, 3), 202);
        CHECKS.due("sum", s.sheet(0, 4), 447);
        CHECKS.due("cut, the smallest that does", s.sheet(0, 5), 13);
        Checks.draw(s, 0, Checks.row(20, 10, 0));
        CHECKS.due("of two cuts the smaller", s.sheet(0, 5), 1);
        s.fresh(0, 3, 3, 255);
        CHECKS.due("no cut", s.sheet(0, 5), 0);
        Checks.draw(s, 0, Checks.row(3, 5, 6, 11));
        // t 4: 13 * 13 / 3 = 56; t 6: 18 * 18 / 4 = 81; t 7 (14 * 1 - 11 * 3, squared, / 3): 120.
        CHECKS.due("cut by the sums", s.sheet(0, 5), 7);
        Checks.draw(s, 0, Checks.row(254, 255));
        CHECKS.due("last cut", s.sheet(0, 5), 255);
        s.fresh(0, 16, 16, 0);
        s.box(0, 0, 0, 15, 7, 255);
        s.dot(0, 0, 0, 100);
        CHECKS.due("sum of many", s.sheet(0, 4), 127 * 255 + 100);
        CHECKS.due("cut of many: 100 goes with 0", s.sheet(0, 5), 101);
        CHECKS.refuses("no sheet", s, Checks.NO_PLACE, () -> s.sheet(4, 6));
        CHECKS.refuses("what 6", s, Checks.NO_ARGUMENT, () -> s.sheet(0, 6));
        CHECKS.refuses("what -1", s, Checks.NO_ARGUMENT, () -> s.sheet(0, -1));
    }

    private static void promise16Count() {
        ParallaxSheets s = tens();
        CHECKS.due("both ends count", s.count(0, 20, 40), 3);
        CHECKS.due("one value", s.count(0, 90, 90), 1);
        CHECKS.due("between", s.count(0, 41, 49), 0);
        CHECKS.due("low above high", s.count(0, 50, 40), 0);
        CHECKS.due("any numbers", s.count(0, Integer.MIN_VALUE, Integer.MAX_VALUE), 9);
        CHECKS.due("any numbers the other way", s.count(0, Integer.MAX_VALUE, Integer.MIN_VALUE), 0);
        CHECKS.due("from below", s.count(0, -5, 10), 1);
        CHECKS.due("to above", s.count(0, 80, 1000), 2);
        CHECKS.refuses("no sheet", s, Checks.NO_PLACE, () -> s.count(4, 0, 1));
        CHECKS.refuses("no sheet", s, Checks.NO_PLACE, () -> s.count(-1, 0, 1));
    }

    private static void promise17Ordered() {
        ParallaxSheets s = Checks.drawn(Checks.row(9, 0, 255), Checks.row(9, 3, 9));
        int[] want = {0, 3, 9, 9, 9, 255};
        for (int k = 0; k < want.length; k++) {
            CHECKS.due("ordered " + k, s.ordered(0, k), want[k]);
        }
        CHECKS.refuses("k 6", s, Checks.NO_PLACE, () -> s.ordered(0, 6));
        CHECKS.refuses("k -1", s, Checks.NO_PLACE, () -> s.ordered(0, -1));
        CHECKS.refuses("no sheet", s, Checks.NO_PLACE, () -> s.ordered(4, 0));
    }

    private static void promise18Difference() {
        ParallaxSheets s = Checks.drawn(Checks.row(10, 20, 30));
        Checks.draw(s, 1, Checks.row(11, 20, 29));
        CHECKS.dueExactly("not cut", s.difference(0, 1), 2.0 / 3.0);
        CHECKS.dueExactly("the other way", s.difference(1, 0), 2.0 / 3.0);
        CHECKS.dueExactly("from itself", s.difference(1, 1), 0.0);
        s.fresh(0, 16, 16, 0);
        s.fresh(1, 16, 16, 255);
        CHECKS.dueExactly("the greatest", s.difference(0, 1), 255.0);
        CHECKS.refuses("one", s, Checks.NO_PLACE, () -> s.difference(4, 0));
        CHECKS.refuses("other", s, Checks.NO_PLACE, () -> s.difference(2, -1));
        CHECKS.refuses("size", s, Checks.NO_STATE, () -> s.difference(0, 2));
        s.fresh(2, 16, 8, 0);
        CHECKS.refuses("H differs", s, Checks.NO_STATE, () -> s.difference(0, 2));
        s.fresh(2, 8, 16, 0);
        CHECKS.refuses("W differs", s, Checks.NO_STATE, () -> s.difference(0, 2));
    }
}
