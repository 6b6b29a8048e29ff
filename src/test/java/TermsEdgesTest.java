/** Each sentence of the Terms that names a boundary, but for those of PARTS and of SEAMS. */
public final class TermsEdgesTest {
    private static final Checks CHECKS = new Checks();
    private static final int NO_CUT = 0;

    public static void main(String[] args) {
        callsAreAnsweredUpToTheLast();
        divisionIsCutTowards0();
        sheetsAre4();
        sidesAre1To16();
        fieldsAreFrom0();
        valuesAre0To255();
        whatWouldBeAbove255Is255();
        whatWouldBeBelow0Is0();
        onlyTheEndIsKeptWithin();
        besideTheSheetTheNearestCounts();
        besideOneFieldRowOrColumn();
        nineAreNumberedRowByRow();
        crossIs1And3And4And5And7();
        allFieldsChangeAtOnce();
        filtersAtFirst();
        weightsAtTheirLimits();
        medianIsThe5th();
        edgesByTheirFormula();
        edgesOfWhatIsTheSame();
        leastAndGreatest();
        openingIsLeastThenGreatest();
        closingIsGreatestThenLeast();
        stretchFrom0To255();
        stretchOfTheSame();
        evenCountsWhatIsNotAbove();
        cutIsFrom1To255();
        cutOfSeveralIsTheSmallest();
        cutIsCutItself();
        cutWithoutAnyIs0();
        cutOfTheLargestSums();
        CHECKS.close();
    }

    private static void callsAreAnsweredUpToTheLast() {
        CHECKS.sentence("An object is used for at most 512 calls after it has been made");
        ParallaxSheets s = new ParallaxSheets();
        for (int call = 1; call <= 511; call++) {
            int before = call > 64 ? (call - 64) % 256 : 0;
            CHECKS.due("call " + call, s.dot(0, call % 8, call / 8 % 8, call % 256), before);
        }
        // Calls 448 to 511 put 192 to 255.
        CHECKS.due("call 512", s.sheet(0, 4), (192 + 255) * 32);
    }

    private static void divisionIsCutTowards0() {
        CHECKS.sentence("All numbers are whole, if nothing else is said; / is cut towards 0.");
        ParallaxSheets s = Checks.drawn(Checks.row(7, 1, 2, 3));
        onlyWeight(s, 4, -1);
        s.divide(2, 10);
        s.filter(0, 0);
        // -7 / 2 = -3, -1 / 2 = 0, -2 / 2 = -1, -3 / 2 = -1
        CHECKS.shows("below 0", s, 0, Checks.row(7, 10, 9, 9));
        onlyWeight(s, 4, 1);
        s.filter(0, 0);
        CHECKS.shows("above 0", s, 0, Checks.row(13, 15, 14, 14));
    }

    private static void sheetsAre4() {
        CHECKS.sentence("There are 4, numbered from 0");
        ParallaxSheets s = new ParallaxSheets();
        for (int i = 0; i < 4; i++) {
            s.fresh(i, i + 1, 4 - i, 10 * i);
        }
        for (int i = 0; i < 4; i++) {
            CHECKS.isAll("sheet " + i, s, i, i + 1, 4 - i, 10 * i);
        }
        CHECKS.refuses("sheet -1", s, Checks.NO_PLACE, () -> s.value(-1, 0, 0));
        CHECKS.refuses("sheet 4", s, Checks.NO_PLACE, () -> s.value(4, 0, 0));
    }

    private static void sidesAre1To16() {
        CHECKS.sentence("each W times H FIELDS (1 to 16 each; 8 and 8 at first)");
        ParallaxSheets s = new ParallaxSheets();
        CHECKS.isAll("at first", s, 3, 8, 8, 0);
        int[][] sides = {{1, 1}, {1, 16}, {16, 1}, {16, 16}};
        for (int[] side : sides) {
            CHECKS.due("made", s.fresh(0, side[0], side[1], 9), side[0] * side[1]);
            CHECKS.isAll("made", s, 0, side[0], side[1], 9);
        }
        CHECKS.refuses("W 0", s, Checks.NO_ARGUMENT, () -> s.fresh(0, 0, 16, 9));
        CHECKS.refuses("W 17", s, Checks.NO_ARGUMENT, () -> s.fresh(0, 17, 1, 9));
        CHECKS.refuses("H 0", s, Checks.NO_ARGUMENT, () -> s.fresh(0, 16, 0, 9));
        CHECKS.refuses("H 17", s, Checks.NO_ARGUMENT, () -> s.fresh(0, 1, 17, 9));
    }

    private static void fieldsAreFrom0() {
        CHECKS.sentence("at (x, y), with x from 0 to W - 1, y from 0 to H - 1");
        int[][] sides = {{1, 1}, {16, 1}, {1, 16}, {16, 16}, {3, 2}};
        for (int[] side : sides) {
            ParallaxSheets s = Checks.even(side[0], side[1], 50);
            int x = side[0] - 1;
            int y = side[1] - 1;
            CHECKS.due("the last", s.dot(0, x, y, 60), 50);
            CHECKS.due("the last", s.value(0, x, y), 60);
            CHECKS.due("the first", s.value(0, 0, 0), x + y == 0 ? 60 : 50);
            CHECKS.refuses("x -1", s, Checks.NO_PLACE, () -> s.value(0, -1, y));
            CHECKS.refuses("x W", s, Checks.NO_PLACE, () -> s.value(0, x + 1, y));
            CHECKS.refuses("y -1", s, Checks.NO_PLACE, () -> s.value(0, x, -1));
            CHECKS.refuses("y H", s, Checks.NO_PLACE, () -> s.value(0, x, y + 1));
        }
    }

    private static void valuesAre0To255() {
        CHECKS.sentence("each with a VALUE, 0 to 255 (0 at first)");
        ParallaxSheets s = new ParallaxSheets();
        CHECKS.isAll("at first", s, 0, 8, 8, 0);
        CHECKS.due("255", s.dot(0, 7, 7, 255), 0);
        CHECKS.due("0", s.dot(0, 7, 7, 0), 255);
        CHECKS.refuses("-1", s, Checks.NO_ARGUMENT, () -> s.dot(0, 7, 7, -1));
        CHECKS.refuses("256", s, Checks.NO_ARGUMENT, () -> s.dot(0, 7, 7, 256));
    }

    private static void whatWouldBeAbove255Is255() {
        CHECKS.sentence("What would be above 255 is 255");
        ParallaxSheets s = Checks.drawn(Checks.row(0, 204, 0), Checks.row(0, 205, 0), Checks.row(0, 206, 0));
        s.shade(0, 50, 0, 0);
        CHECKS.shows("shade to 254, 255 and 256", s, 0,
                Checks.row(0, 254, 100), Checks.row(0, 255, 100), Checks.row(0, 255, 100));
        Checks.draw(s, 0, Checks.row(0, 4, 5, 6, 255));
        onlyWeight(s, 4, 1);
        s.divide(1, 250);
        s.filter(0, 0);
        CHECKS.shows("weights to 254, 255 and 256", s, 0, Checks.row(250, 254, 255, 255, 255));
    }

    private static void whatWouldBeBelow0Is0() {
        CHECKS.sentence("what would be below 0 is 0");
        ParallaxSheets s = Checks.drawn(Checks.row(9, 51), Checks.row(9, 50), Checks.row(9, 49), Checks.row(9, 0));
        s.shade(0, -50, 0, 0);
        CHECKS.shows("shade to 1, 0 and -1", s, 0,
                Checks.row(9, 1), Checks.row(9, 0), Checks.row(9, 0), Checks.row(9, 0));
        Checks.draw(s, 0, Checks.row(9, 10, 11, 255, 0));
        onlyWeight(s, 4, -1);
        s.divide(1, 10);
        s.filter(0, 0);
        CHECKS.shows("weights to 1, 0 and -1", s, 0, Checks.row(1, 0, 0, 0, 10));
    }

    private static void onlyTheEndIsKeptWithin() {
        CHECKS.sentence("What would be above 255 is 255, what would be below 0 is 0: the VALUE, not what leads to it");
        ParallaxSheets s = Checks.drawn(Checks.row(0, 250, 0));
        s.shade(0, 30, 0, -1);
        // 250 + 30 - 5 is above 255; 0 + 60 - 10 is not.
        CHECKS.shows("shade", s, 0, Checks.row(0, 255, 50));
        Checks.draw(s, 0, Checks.row(30));
        onlyWeight(s, 4, -1);
        s.divide(1, 40);
        s.filter(0, 0);
        CHECKS.shows("-30 + 40", s, 0, Checks.row(10));
        Checks.draw(s, 0, Checks.row(200));
        for (int place = 0; place <= 8; place++) {
            s.kernel(place, place < 5 ? 9 : -9);
        }
        s.divide(9, 0);
        s.filter(0, 0);
        CHECKS.shows("9000 - 7200, by 9", s, 0, Checks.row(200));
    }

    private static void besideTheSheetTheNearestCounts() {
        CHECKS.sentence("BESIDE the SHEET the VALUE of the nearest FIELD counts (x and y each kept within).");
        int[][][] want = {
            {{1, 1, 2}, {1, 1, 2}}, {{1, 2, 3}, {1, 2, 3}}, {{2, 3, 3}, {2, 3, 3}},
            {{1, 1, 2}, {4, 4, 5}}, {{1, 2, 3}, {4, 5, 6}}, {{2, 3, 3}, {5, 6, 6}},
            {{4, 4, 5}, {4, 4, 5}}, {{4, 5, 6}, {4, 5, 6}}, {{5, 6, 6}, {5, 6, 6}}};
        for (int place = 0; place <= 8; place++) {
            ParallaxSheets s = Checks.drawn(Checks.row(1, 2, 3), Checks.row(4, 5, 6));
            onlyWeight(s, place, 1);
            s.divide(1, 0);
            s.filter(0, 0);
            CHECKS.shows("by place " + place, s, 0, want[place]);
        }
    }

    private static void besideOneFieldRowOrColumn() {
        CHECKS.sentence("BESIDE a SHEET of one FIELD, one row or one column");
        for (int place = 0; place <= 8; place++) {
            ParallaxSheets s = Checks.drawn(Checks.row(77));
            Checks.draw(s, 1, Checks.row(1, 2, 3));
            Checks.draw(s, 2, Checks.row(1), Checks.row(2), Checks.row(3));
            onlyWeight(s, place, 1);
            s.divide(1, 0);
            s.filter(0, 0);
            s.filter(1, 0);
            s.filter(2, 0);
            int[][] moved = {{1, 1, 2}, {1, 2, 3}, {2, 3, 3}};
            int[] column = moved[place / 3];
            CHECKS.shows("one by place " + place, s, 0, Checks.row(77));
            CHECKS.shows("row by place " + place, s, 1, moved[place % 3]);
            CHECKS.shows("column by place " + place, s, 2,
                    Checks.row(column[0]), Checks.row(column[1]), Checks.row(column[2]));
        }
    }

    private static void nineAreNumberedRowByRow() {
        CHECKS.sentence("The NINE of a FIELD are those from (x - 1, y - 1) to (x + 1, y + 1), row by row, "
                + "numbered from 0");
        for (int place = 0; place <= 8; place++) {
            ParallaxSheets s = Checks.drawn(Checks.row(10, 11, 12), Checks.row(13, 14, 15), Checks.row(16, 17, 18));
            onlyWeight(s, place, 1);
            s.divide(1, 0);
            s.filter(0, 0);
            CHECKS.due("place " + place, s.value(0, 1, 1), 10 + place);
        }
    }

    private static void crossIs1And3And4And5And7() {
        CHECKS.sentence("the CROSS of it are 1, 3, 4, 5 and 7 of these");
        for (int place = 0; place <= 8; place++) {
            ParallaxSheets s = Checks.even(3, 3, 100);
            s.dot(0, place % 3, place / 3, 60);
            s.copy(0, 1);
            s.copy(0, 2);
            s.values(2, 0);
            s.copy(2, 3);
            boolean inCross = place == 1 || place == 3 || place == 4 || place == 5 || place == 7;
            s.filter(0, 3);
            CHECKS.due("least of the nine with " + place, s.value(0, 1, 1), 60);
            s.filter(1, 4);
            CHECKS.due("least of the cross with " + place, s.value(1, 1, 1), inCross ? 60 : 100);
            s.filter(2, 5);
            CHECKS.due("greatest of the nine with " + place, s.value(2, 1, 1), 195);
            s.filter(3, 6);
            CHECKS.due("greatest of the cross with " + place, s.value(3, 1, 1), inCross ? 195 : 155);
        }
    }

    private static void allFieldsChangeAtOnce() {
        CHECKS.sentence("All FIELDS of a SHEET change at once, by what was there.");
        ParallaxSheets s = Checks.drawn(Checks.row(0, 9, 9, 9, 9, 0));
        CHECKS.due("least", s.filter(0, 3), 2);
        CHECKS.shows("least", s, 0, Checks.row(0, 0, 9, 9, 0, 0));
        Checks.draw(s, 0, Checks.row(9), Checks.row(0), Checks.row(0), Checks.row(0), Checks.row(0), Checks.row(9));
        CHECKS.due("greatest", s.filter(0, 6), 2);
        CHECKS.shows("greatest", s, 0, Checks.row(9), Checks.row(9), Checks.row(0), Checks.row(0),
                Checks.row(9), Checks.row(9));
        Checks.draw(s, 0, Checks.row(1, 2, 3, 4, 5));
        s.turn(0, 1);
        CHECKS.shows("mirrored", s, 0, Checks.row(5, 4, 3, 2, 1));
        Checks.draw(s, 0, "#####", "#####");
        s.dot(0, 2, 0, 0);
        s.spread(0, 0);
        CHECKS.shows("spread", s, 0, Checks.row(20, 10, 0, 10, 20), Checks.row(30, 20, 10, 20, 30));
    }

    private static void filtersAtFirst() {
        CHECKS.sentence("a KERNEL of 9 weights, -9 to 9 (1 each, at first), a DIVISOR, 1 to 99 (9), "
                + "and a BASE, 0 to 255 (0)");
        ParallaxSheets s = Checks.drawn(Checks.row(0, 0, 0), Checks.row(0, 99, 0), Checks.row(0, 0, 9));
        CHECKS.due("changed", s.filter(0, 0), 9);
        // The corner counts once, twice over two edges each, four times in itself.
        CHECKS.shows("all at first", s, 0, Checks.row(11, 11, 11), Checks.row(11, 12, 13), Checks.row(11, 13, 15));
        for (int place = 0; place <= 8; place++) {
            CHECKS.due("weight at first", s.kernel(place, 0), 1);
        }
        s.filter(0, 0);
        CHECKS.isAll("base at first", s, 0, 3, 3, 0);
        CHECKS.due("divisor at first", s.divide(1, 0), 9);
    }

    private static void weightsAtTheirLimits() {
        CHECKS.sentence("WEIGHTS: (the sum of weight * VALUE over the NINE) / DIVISOR, cut, + BASE.");
        ParallaxSheets s = Checks.even(16, 16, 255);
        for (int place = 0; place <= 8; place++) {
            s.kernel(place, 9);
        }
        s.divide(99, 0);
        CHECKS.due("9 * 9 * 255 / 99 = 208", s.filter(0, 0), 256);
        CHECKS.isAll("9 * 9 * 255 / 99 = 208", s, 0, 16, 16, 208);
        s.divide(1, 255);
        CHECKS.due("the greatest is kept at 255", s.filter(0, 0), 256);
        CHECKS.isAll("the greatest is kept at 255", s, 0, 16, 16, 255);
        for (int place = 0; place <= 8; place++) {
            s.kernel(place, -9);
        }
        s.divide(99, 255);
        CHECKS.due("-208 + 255", s.filter(0, 0), 256);
        CHECKS.isAll("-208 + 255", s, 0, 16, 16, 47);
        s.divide(1, 255);
        CHECKS.due("the least is kept at 0", s.filter(0, 0), 256);
        CHECKS.isAll("the least is kept at 0", s, 0, 16, 16, 0);
        s.divide(1, 255);
        s.filter(0, 0);
        CHECKS.isAll("base alone", s, 0, 16, 16, 255);
    }

    private static void medianIsThe5th() {
        CHECKS.sentence("MEDIAN: the 5th of the NINE by VALUE.");
        int[][] nines = {{9, 8, 7, 6, 5, 4, 3, 2, 1, 5}, {0, 255, 0, 255, 0, 255, 0, 255, 0, 0},
            {255, 0, 255, 0, 255, 0, 255, 0, 255, 255}, {7, 7, 7, 7, 1, 2, 3, 4, 5, 5}, {1, 1, 1, 1, 8, 9, 9, 9, 9, 8},
            {1, 1, 1, 1, 1, 9, 9, 9, 9, 1}, {9, 9, 9, 9, 9, 1, 1, 1, 1, 9}, {4, 4, 4, 4, 4, 4, 4, 4, 4, 4}};
        for (int[] n : nines) {
            ParallaxSheets s = Checks.drawn(Checks.row(n[0], n[1], n[2]), Checks.row(n[3], n[4], n[5]),
                    Checks.row(n[6], n[7], n[8]));
            s.filter(0, 1);
            CHECKS.due("of " + n[0] + ", " + n[1] + ", ..", s.value(0, 1, 1), n[9]);
        }
        ParallaxSheets s = Checks.drawn(Checks.row(1, 2), Checks.row(3, 4));
        CHECKS.due("at corners", s.filter(0, 1), 2);
        // NINE of 1: 1 1 1 1 2 2 3 3 4; of 2: 1 1 2 2 2 2 3 4 4; of 3: 1 1 2 3 3 3 3 4 4; of 4: 1 2 2 3 3 4 4 4 4.
        CHECKS.shows("at corners", s, 0, Checks.row(2, 2), Checks.row(3, 3));
        ParallaxSheets one = Checks.drawn(Checks.row(200));
        CHECKS.due("of one field", one.filter(0, 1), 0);
    }

    private static void edgesByTheirFormula() {
        CHECKS.sentence("EDGES: .. (|n2 + 2 * n5 + n8 - n0 - 2 * n3 - n6| + |n6 + 2 * n7 + n8 - n0 - 2 * n1 - n2|) / 4");
        int[][] placesAndWant = {{0, 0, 2}, {1, 1, 2}, {2, 2, 2}, {3, 3, 2}, {4, 4, 0}, {5, 5, 2}, {6, 6, 2},
            {7, 7, 2}, {8, 8, 2}, {0, 8, 0}, {2, 6, 0}, {0, 2, 2}, {0, 6, 2}, {3, 5, 0}, {1, 7, 0}, {1, 5, 4},
            {6, 8, 2}, {2, 8, 2}, {3, 7, 4}};
        for (int[] p : placesAndWant) {
            ParallaxSheets s = Checks.even(3, 3, 0);
            s.dot(0, p[0] % 3, p[0] / 3, 4);
            s.dot(0, p[1] % 3, p[1] / 3, 4);
            s.filter(0, 2);
            CHECKS.due("edges of " + p[0] + " and " + p[1], s.value(0, 1, 1), p[2]);
        }
        ParallaxSheets s = Checks.drawn(Checks.row(0, 1, 2), Checks.row(0, 1, 2), Checks.row(0, 1, 2));
        s.filter(0, 2);
        CHECKS.shows("4 / 4 and 8 / 4", s, 0, Checks.row(1, 2, 1), Checks.row(1, 2, 1), Checks.row(1, 2, 1));
        Checks.draw(s, 0, Checks.row(1, 0, 0), Checks.row(0, 0, 0), Checks.row(0, 0, 0));
        s.filter(0, 2);
        CHECKS.due("2 / 4 is cut", s.value(0, 1, 1), 0);
        Checks.draw(s, 0, Checks.row(0, 0, 255), Checks.row(0, 0, 255), Checks.row(0, 0, 255));
        s.filter(0, 2);
        CHECKS.due("1020 / 4", s.value(0, 1, 1), 255);
        Checks.draw(s, 0, Checks.row(255, 255, 0), Checks.row(255, 0, 0), Checks.row(0, 0, 0));
        s.filter(0, 2);
        CHECKS.due("1530 / 4 is kept at 255", s.value(0, 1, 1), 255);
    }

    private static void edgesOfWhatIsTheSame() {
        CHECKS.sentence("EDGES where all VALUES are the same are 0");
        int[][] sides = {{1, 1}, {1, 16}, {16, 1}, {16, 16}};
        for (int[] side : sides) {
            ParallaxSheets s = Checks.even(side[0], side[1], 255);
            CHECKS.due("changed", s.filter(0, 2), side[0] * side[1]);
            CHECKS.isAll("then", s, 0, side[0], side[1], 0);
            CHECKS.due("again", s.filter(0, 2), 0);
        }
    }

    private static void leastAndGreatest() {
        CHECKS.sentence("LEAST and GREATEST: that of the NINE, or of the CROSS.");
        ParallaxSheets s = Checks.drawn(Checks.row(9, 1, 8), Checks.row(2, 5, 4), Checks.row(7, 3, 6));
        s.copy(0, 1);
        s.copy(0, 2);
        s.copy(0, 3);
        CHECKS.due("least of the nine", s.filter(0, 3), 8);
        CHECKS.shows("least of the nine", s, 0, Checks.row(1, 1, 1), Checks.row(1, 1, 1), Checks.row(2, 2, 3));
        CHECKS.due("least of the cross", s.filter(1, 4), 5);
        CHECKS.shows("least of the cross", s, 1, Checks.row(1, 1, 1), Checks.row(2, 1, 4), Checks.row(2, 3, 3));
        CHECKS.due("greatest of the nine", s.filter(2, 5), 5);
        CHECKS.shows("greatest of the nine", s, 2, Checks.row(9, 9, 8), Checks.row(9, 9, 8), Checks.row(7, 7, 6));
        CHECKS.due("greatest of the cross", s.filter(3, 6), 4);
        CHECKS.shows("greatest of the cross", s, 3, Checks.row(9, 9, 8), Checks.row(9, 5, 8), Checks.row(7, 7, 6));
        for (int how = 3; how <= 8; how++) {
            s.fresh(0, 16, 16, 128);
            CHECKS.due("of what is the same, by " + how, s.filter(0, how), 0);
            s.fresh(1, 1, 1, 255);
            CHECKS.due("of one field, by " + how, s.filter(1, how), 0);
        }
    }

    private static void openingIsLeastThenGreatest() {
        CHECKS.sentence("OPENING is LEAST, then GREATEST");
        ParallaxSheets s = Checks.drawn(Checks.row(9, 0, 0, 9, 9, 9, 0, 5, 0));
        CHECKS.due("changed at the end", s.filter(0, 7), 2);
        CHECKS.shows("only three together stay", s, 0, Checks.row(0, 0, 0, 9, 9, 9, 0, 0, 0));
        Checks.draw(s, 0, Checks.row(9, 9, 0, 0, 9, 9));
        CHECKS.due("two at an edge stay, though both steps change", s.filter(0, 7), 0);
        Checks.draw(s, 0, Checks.row(9, 9, 0), Checks.row(9, 9, 0), Checks.row(0, 0, 0));
        CHECKS.due("so do four at a corner", s.filter(0, 7), 0);
        Checks.draw(s, 0, Checks.row(9, 0, 0), Checks.row(0, 0, 0), Checks.row(0, 0, 4));
        CHECKS.due("one at a corner does not", s.filter(0, 7), 2);
        Checks.draw(s, 0, Checks.row(0, 9, 0), Checks.row(9, 9, 9), Checks.row(0, 9, 0));
        CHECKS.due("by the nine, not the cross", s.filter(0, 7), 5);
    }

    private static void closingIsGreatestThenLeast() {
        CHECKS.sentence("CLOSING is GREATEST, then LEAST");
        ParallaxSheets s = Checks.drawn(Checks.row(0, 9, 9, 0, 0, 0, 9, 5, 9));
        CHECKS.due("changed at the end", s.filter(0, 8), 2);
        CHECKS.shows("only three together stay", s, 0, Checks.row(9, 9, 9, 0, 0, 0, 9, 9, 9));
        Checks.draw(s, 0, Checks.row(0, 0, 9, 9, 0, 0));
        CHECKS.due("two at an edge stay, though both steps change", s.filter(0, 8), 0);
        Checks.draw(s, 0, Checks.row(0, 9, 9), Checks.row(9, 9, 9), Checks.row(9, 9, 4));
        CHECKS.due("one at a corner does not", s.filter(0, 8), 2);
        Checks.draw(s, 0, Checks.row(9, 0, 9), Checks.row(0, 0, 0), Checks.row(9, 0, 9));
        CHECKS.due("by the nine, not the cross", s.filter(0, 8), 5);
    }

    private static void stretchFrom0To255() {
        CHECKS.sentence("STRETCH: with a and b as the least and greatest VALUE, (VALUE - a) * 255 / (b - a)");
        ParallaxSheets s = Checks.drawn(Checks.row(0, 128, 255));
        CHECKS.due("from 0 to 255 already", s.values(0, 1), 0);
        Checks.draw(s, 0, Checks.row(254, 255, 254));
        CHECKS.due("of two that are next to one another", s.values(0, 1), 2);
        CHECKS.shows("of two", s, 0, Checks.row(0, 255, 0));
        Checks.draw(s, 0, Checks.row(10, 11, 16, 17));
        CHECKS.due("cut", s.values(0, 1), 4);
        // 255 / 7 = 36.4; 6 * 255 / 7 = 218.6
        CHECKS.shows("cut", s, 0, Checks.row(0, 36, 218, 255));
        Checks.draw(s, 0, Checks.row(0, 1, 254));
        CHECKS.due("from 0 to 254", s.values(0, 1), 1);
        CHECKS.shows("from 0 to 254", s, 0, Checks.row(0, 1, 255));
        Checks.draw(s, 0, Checks.row(1, 2, 255));
        CHECKS.due("from 1 to 255", s.values(0, 1), 2);
        CHECKS.shows("from 1 to 255", s, 0, Checks.row(0, 1, 255));
    }

    private static void stretchOfTheSame() {
        CHECKS.sentence("all stay, if they are the same");
        for (int value : new int[] {0, 1, 127, 254, 255}) {
            ParallaxSheets s = Checks.even(16, 16, value);
            CHECKS.due("of " + value, s.values(0, 1), 0);
            CHECKS.isAll("of " + value, s, 0, 16, 16, value);
            s.values(2, 0);
            s.fresh(1, 1, 1, value);
            CHECKS.due("of one field, whatever was before", s.values(1, 1), 0);
            CHECKS.due("of one field", s.value(1, 0, 0), value);
        }
    }

    private static void evenCountsWhatIsNotAbove() {
        CHECKS.sentence("EVEN: 255 * (how many FIELDS have a VALUE not above that) / (W * H)");
        for (int value : new int[] {0, 100, 255}) {
            ParallaxSheets s = Checks.even(1, 1, value);
            CHECKS.due("of one field", s.values(0, 2), value == 255 ? 0 : 1);
            CHECKS.isAll("of one field", s, 0, 1, 1, 255);
            s.fresh(1, 16, 16, value);
            CHECKS.due("of the same", s.values(1, 2), value == 255 ? 0 : 256);
            CHECKS.isAll("of the same", s, 1, 16, 16, 255);
        }
        ParallaxSheets s = Checks.drawn(Checks.row(0, 255, 0, 1, 255, 0, 254));
        CHECKS.due("of seven", s.values(0, 2), 5);
        // 255 * 3 / 7 = 109.3, 255 * 4 / 7 = 145.7, 255 * 5 / 7 = 182.1
        CHECKS.shows("of seven", s, 0, Checks.row(109, 255, 109, 145, 255, 109, 182));
        ParallaxSheets each = Checks.eachValueOnce();
        CHECKS.due("each once: 255 * (v + 1) / 256 is v", each.values(0, 2), 0);
        CHECKS.due("each once", each.ordered(0, 200), 200);
    }

    private static void cutIsFrom1To255() {
        CHECKS.sentence("The CUT of a SHEET: for t from 1 to 255");
        ParallaxSheets s = Checks.drawn(Checks.row(0, 1));
        CHECKS.due("the smallest", s.sheet(0, 5), 1);
        Checks.draw(s, 0, Checks.row(254, 255));
        CHECKS.due("the largest", s.sheet(0, 5), 255);
        Checks.draw(s, 0, Checks.row(0, 0, 255, 254));
        CHECKS.due("between", s.sheet(0, 5), 1);
        Checks.draw(s, 0, Checks.row(1), Checks.row(2), Checks.row(254));
        CHECKS.due("n FIELDS have a VALUE below t", s.sheet(0, 5), 3);
        CHECKS.due("each value once", Checks.eachValueOnce().sheet(0, 5), 128);
    }

    private static void cutOfSeveralIsTheSmallest() {
        CHECKS.sentence("the t with the greatest one, of several the smallest");
        ParallaxSheets s = Checks.drawn(Checks.row(255, 0));
        CHECKS.due("all t do", s.sheet(0, 5), 1);
        Checks.draw(s, 0, Checks.row(100, 200, 200));
        CHECKS.due("101 to 200 do", s.sheet(0, 5), 101);
        Checks.draw(s, 0, Checks.row(20, 10, 0));
        CHECKS.due("450 by t 1 to 10, and by t 11 to 20", s.sheet(0, 5), 1);
    }

    private static void cutIsCutItself() {
        CHECKS.sentence("(s * m - u * n) * (s * m - u * n) / (n * m) counts; / is cut towards 0");
        ParallaxSheets s = Checks.drawn(Checks.row(0, 2, 3, 3, 5));
        // 13 * 13 / 4 = 42.25 by t 1 and 2, 16 * 16 / 6 = 42.67 by t 3
        CHECKS.due("42 and 42", s.sheet(0, 5), 1);
        Checks.draw(s, 0, Checks.row(3, 5, 6, 11));
        CHECKS.due("56, 81 and 120", s.sheet(0, 5), 7);
        Checks.draw(s, 0, Checks.row(0, 2, 3, 5));
        CHECKS.due("33, 36 and 33", s.sheet(0, 5), 3);
        Checks.draw(s, 0, Checks.row(2, 1, 0, 2));
        CHECKS.due("8 and 9", s.sheet(0, 5), 2);
        Checks.draw(s, 0, Checks.row(4, 3, 2, 0));
        CHECKS.due("27, 25 and 16", s.sheet(0, 5), 1);
    }

    private static void cutWithoutAnyIs0() {
        CHECKS.sentence("if n and m are above 0 ..; 0 without any");
        for (int value : new int[] {0, 1, 128, 254, 255}) {
            ParallaxSheets s = Checks.even(16, 16, value);
            CHECKS.due("of " + value, s.sheet(0, 5), NO_CUT);
            s.fresh(1, 1, 1, value);
            CHECKS.due("of one field", s.sheet(1, 5), NO_CUT);
        }
    }

    private static void cutOfTheLargestSums() {
        CHECKS.sentence("(s * m - u * n) * (s * m - u * n) / (n * m), with the largest sums");
        ParallaxSheets s = Checks.even(16, 16, 0);
        s.box(0, 0, 8, 15, 15, 255);
        CHECKS.due("halves", s.sheet(0, 5), 1);
        s.dot(0, 0, 0, 127);
        CHECKS.due("127 is nearer to 0", s.sheet(0, 5), 128);
        s.dot(0, 0, 0, 129);
        CHECKS.due("129 is nearer to 255", s.sheet(0, 5), 1);
    }

    /** All weights of the KERNEL are 0, but this one. */
    private static void onlyWeight(ParallaxSheets s, int place, int weight) {
        for (int i = 0; i <= 8; i++) {
            s.kernel(i, i == place ? weight : 0);
        }
    }
}
