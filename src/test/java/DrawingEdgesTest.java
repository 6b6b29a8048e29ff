/** Each sentence of promises 1 to 9 that names a boundary. */
public final class DrawingEdgesTest {
    private static final Checks CHECKS = new Checks();

    public static void main(String[] args) {
        newObjectHas4SheetsOf8Times8();
        freshFromTheSmallestToTheLargest();
        freshMakesAnew();
        dotAtCornersOfTheSheet();
        dotFrom0To255();
        boxOfOneField();
        boxWhicheverIsWhere();
        boxOfTheWholeSheet();
        boxCountsWhatHasAnotherValue();
        discOfRadius0();
        discOfRadius20();
        discNotAboveTheRadius();
        discBesideTheSheet();
        shadeOf0();
        shadeAtItsLimits();
        shadeAtTheLastField();
        shadeSums();
        copyOfAnotherSize();
        copyOfTheSameSize();
        copyStandsAlone();
        mixOfShare0And100();
        mixIsCut();
        mixNeedsTheSameSides();
        turnOfOneField();
        turnOfRowsAndColumns();
        turnOfTheLargest();
        turnHalfOfOddSides();
        turnHalfIsCut();
        turnTwiceUpTo16();
        CHECKS.close();
    }

    private static void newObjectHas4SheetsOf8Times8() {
        CHECKS.sentence("Creates 4 SHEETS of 8 times 8.");
        ParallaxSheets s = new ParallaxSheets();
        for (int sheet = 0; sheet <= 3; sheet++) {
            CHECKS.isAll("sheet " + sheet, s, sheet, 8, 8, 0);
        }
        CHECKS.refuses("sheet 4", s, Checks.NO_PLACE, () -> s.sheet(4, 0));
        CHECKS.refuses("x 8", s, Checks.NO_PLACE, () -> s.value(3, 8, 7));
        CHECKS.refuses("y 8", s, Checks.NO_PLACE, () -> s.value(3, 7, 8));
    }

    private static void freshFromTheSmallestToTheLargest() {
        CHECKS.sentence("Throws IllegalArgumentException if w or h is not 1 to 16, or value is not 0 to 255");
        int[][] made = {{1, 1, 0}, {1, 1, 255}, {16, 1, 255}, {1, 16, 0}, {16, 16, 255}, {16, 16, 0}, {15, 2, 254}};
        ParallaxSheets s = new ParallaxSheets();
        for (int sheet = 0; sheet <= 3; sheet++) {
            for (int[] m : made) {
                CHECKS.due("how many fields it has", s.fresh(sheet, m[0], m[1], m[2]), m[0] * m[1]);
                CHECKS.isAll("fresh", s, sheet, m[0], m[1], m[2]);
            }
        }
        int[][] wrong = {{0, 1, 0}, {17, 1, 0}, {1, 0, 0}, {1, 17, 0}, {1, 1, -1}, {1, 1, 256}, {-1, -1, 5}, {4, -4, 5}};
        for (int[] m : wrong) {
            CHECKS.refuses("fresh", s, Checks.NO_ARGUMENT, () -> s.fresh(0, m[0], m[1], m[2]));
        }
    }

    private static void freshMakesAnew() {
        CHECKS.sentence("Makes a SHEET anew.");
        ParallaxSheets s = Checks.eachValueOnce();
        s.fresh(0, 2, 3, 7);
        CHECKS.shows("smaller", s, 0, Checks.row(7, 7), Checks.row(7, 7), Checks.row(7, 7));
        s.fresh(0, 16, 16, 8);
        CHECKS.isAll("larger", s, 0, 16, 16, 8);
        s.fresh(0, 16, 16, 9);
        CHECKS.isAll("as large", s, 0, 16, 16, 9);
        CHECKS.isAll("the others stay", s, 1, 8, 8, 0);
    }

    private static void dotAtCornersOfTheSheet() {
        CHECKS.sentence("Throws IndexOutOfBoundsException if there is no such SHEET, or FIELD");
        int[][] sides = {{1, 1}, {16, 1}, {1, 16}, {16, 16}, {2, 3}};
        for (int[] side : sides) {
            int x = side[0] - 1;
            int y = side[1] - 1;
            ParallaxSheets s = Checks.even(side[0], side[1], 1);
            CHECKS.due("the last", s.dot(0, x, y, 5), 1);
            CHECKS.due("only that one", s.count(0, 1, 1), side[0] * side[1] - 1);
            CHECKS.due("the last again", s.dot(0, x, y, 1), 5);
            CHECKS.due("the first", s.dot(0, 0, 0, 6), 1);
            CHECKS.due("the first again", s.dot(0, 0, 0, 6), 6);
            CHECKS.refuses("x -1", s, Checks.NO_PLACE, () -> s.dot(0, -1, 0, 6));
            CHECKS.refuses("x W", s, Checks.NO_PLACE, () -> s.dot(0, x + 1, 0, 6));
            CHECKS.refuses("y -1", s, Checks.NO_PLACE, () -> s.dot(0, 0, -1, 6));
            CHECKS.refuses("y H", s, Checks.NO_PLACE, () -> s.dot(0, 0, y + 1, 6));
        }
    }

    private static void dotFrom0To255() {
        CHECKS.sentence("Throws IllegalArgumentException if value is not 0 to 255");
        ParallaxSheets s = Checks.even(1, 1, 100);
        CHECKS.due("0", s.dot(0, 0, 0, 0), 100);
        CHECKS.due("255", s.dot(0, 0, 0, 255), 0);
        CHECKS.due("255 was there", s.value(0, 0, 0), 255);
        CHECKS.refuses("-1", s, Checks.NO_ARGUMENT, () -> s.dot(0, 0, 0, -1));
        CHECKS.refuses("256", s, Checks.NO_ARGUMENT, () -> s.dot(0, 0, 0, 256));
    }

    private static void boxOfOneField() {
        CHECKS.sentence("all FIELDS from the one to the other one: the same one twice");
        ParallaxSheets s = Checks.even(3, 3, 1);
        CHECKS.due("the middle", s.box(0, 1, 1, 1, 1, 255), 1);
        CHECKS.due("a corner", s.box(0, 2, 2, 2, 2, 0), 1);
        CHECKS.shows("two", s, 0, Checks.row(1, 1, 1), Checks.row(1, 255, 1), Checks.row(1, 1, 0));
        s.fresh(1, 1, 1, 4);
        CHECKS.due("the only one", s.box(1, 0, 0, 0, 0, 5), 1);
        CHECKS.isAll("the only one", s, 1, 1, 1, 5);
    }

    private static void boxWhicheverIsWhere() {
        CHECKS.sentence("all FIELDS from the one to the other one, whichever is where");
        int[][] corners = {{1, 0, 2, 2}, {2, 2, 1, 0}, {1, 2, 2, 0}, {2, 0, 1, 2}};
        for (int[] c : corners) {
            ParallaxSheets s = Checks.even(4, 4, 7);
            CHECKS.due("changed", s.box(0, c[0], c[1], c[2], c[3], 9), 6);
            CHECKS.shows("box", s, 0, Checks.row(7, 9, 9, 7), Checks.row(7, 9, 9, 7), Checks.row(7, 9, 9, 7),
                    Checks.row(7, 7, 7, 7));
        }
    }

    private static void boxOfTheWholeSheet() {
        CHECKS.sentence("all FIELDS from the one to the other one: from corner to corner");
        int[][] sides = {{1, 1}, {16, 1}, {1, 16}, {16, 16}};
        for (int[] side : sides) {
            ParallaxSheets s = Checks.even(side[0], side[1], 0);
            CHECKS.due("all", s.box(0, 0, side[1] - 1, side[0] - 1, 0, 255), side[0] * side[1]);
            CHECKS.isAll("all", s, 0, side[0], side[1], 255);
            CHECKS.due("back", s.box(0, side[0] - 1, side[1] - 1, 0, 0, 0), side[0] * side[1]);
            CHECKS.isAll("back", s, 0, side[0], side[1], 0);
            CHECKS.refuses("toX W", s, Checks.NO_PLACE, () -> s.box(0, 0, 0, side[0], 0, 1));
            CHECKS.refuses("toY H", s, Checks.NO_PLACE, () -> s.box(0, 0, 0, 0, side[1], 1));
            CHECKS.refuses("x W", s, Checks.NO_PLACE, () -> s.box(0, side[0], 0, 0, 0, 1));
            CHECKS.refuses("y H", s, Checks.NO_PLACE, () -> s.box(0, 0, side[1], 0, 0, 1));
        }
    }

    private static void boxCountsWhatHasAnotherValue() {
        CHECKS.sentence("Returns how many FIELDS have another VALUE then.");
        ParallaxSheets s = Checks.drawn(Checks.row(9, 9, 1), Checks.row(1, 9, 9));
        CHECKS.due("two of six", s.box(0, 0, 0, 2, 1, 9), 2);
        CHECKS.due("none of six", s.box(0, 0, 0, 2, 1, 9), 0);
        CHECKS.due("all of six", s.box(0, 0, 0, 2, 1, 8), 6);
    }

    private static void discOfRadius0() {
        CHECKS.sentence("dx * dx + dy * dy not above radius * radius: radius 0");
        ParallaxSheets s = Checks.even(3, 3, 1);
        CHECKS.due("one field", s.disc(0, 1, 1, 0, 2), 1);
        CHECKS.due("again", s.disc(0, 1, 1, 0, 2), 0);
        CHECKS.shows("one field", s, 0, Checks.row(1, 1, 1), Checks.row(1, 2, 1), Checks.row(1, 1, 1));
        CHECKS.refuses("radius -1", s, Checks.NO_ARGUMENT, () -> s.disc(0, 1, 1, -1, 2));
    }

    private static void discOfRadius20() {
        CHECKS.sentence("Throws IllegalArgumentException if radius is not 0 to 20");
        ParallaxSheets s = Checks.even(16, 16, 1);
        CHECKS.due("from the middle, all", s.disc(0, 8, 8, 20, 0), 256);
        // 14 * 14 + 15 * 15 = 421 twice, and 450
        CHECKS.due("from a corner, all but three", s.disc(0, 15, 15, 20, 255), 253);
        CHECKS.due("450", s.value(0, 0, 0), 0);
        CHECKS.due("421", s.value(0, 1, 0), 0);
        CHECKS.due("421", s.value(0, 0, 1), 0);
        CHECKS.due("392", s.value(0, 1, 1), 255);
        CHECKS.due("394", s.value(0, 2, 0), 255);
        CHECKS.refuses("radius 21", s, Checks.NO_ARGUMENT, () -> s.disc(0, 8, 8, 21, 2));
        ParallaxSheets one = Checks.even(1, 1, 1);
        CHECKS.due("one field", one.disc(0, 0, 0, 20, 2), 1);
    }

    private static void discNotAboveTheRadius() {
        CHECKS.sentence("all FIELDS with dx * dx + dy * dy not above radius * radius");
        ParallaxSheets s = Checks.even(16, 16, 0);
        CHECKS.due("radius 5", s.disc(0, 7, 7, 5, 9), 81);
        int[][] just = {{10, 11}, {11, 10}, {12, 7}, {2, 7}, {7, 12}, {7, 2}, {4, 3}, {3, 4}};
        for (int[] at : just) {
            CHECKS.due("25 at " + at[0] + ", " + at[1], s.value(0, at[0], at[1]), 9);
        }
        int[][] above = {{12, 8}, {8, 12}, {2, 6}, {6, 2}, {13, 7}, {1, 7}, {11, 11}, {3, 3}};
        for (int[] at : above) {
            CHECKS.due("26 or more at " + at[0] + ", " + at[1], s.value(0, at[0], at[1]), 0);
        }
        s.fresh(1, 3, 3, 0);
        CHECKS.due("radius 1 is without the corners", s.disc(1, 1, 1, 1, 5), 5);
        CHECKS.shows("radius 1", s, 1, Checks.row(0, 5, 0), Checks.row(5, 5, 5), Checks.row(0, 5, 0));
    }

    private static void discBesideTheSheet() {
        CHECKS.sentence("what a disc would reach BESIDE the SHEET is not there");
        ParallaxSheets s = Checks.even(16, 1, 0);
        CHECKS.due("in one row, all but the last", s.disc(0, 0, 0, 14, 1), 15);
        CHECKS.due("in one row, the last", s.disc(0, 0, 0, 15, 1), 1);
        s.fresh(0, 1, 16, 0);
        CHECKS.due("in one column, all but the first", s.disc(0, 0, 15, 14, 1), 15);
        CHECKS.due("in one column, the first", s.disc(0, 0, 15, 15, 1), 1);
        s.fresh(0, 16, 16, 0);
        CHECKS.due("a quarter at a corner", s.disc(0, 15, 0, 1, 1), 3);
        CHECKS.due("at the corner beside it", s.value(0, 14, 0) + s.value(0, 15, 1) + s.value(0, 14, 1), 2);
        CHECKS.refuses("x 16", s, Checks.NO_PLACE, () -> s.disc(0, 16, 0, 1, 1));
        CHECKS.refuses("y 16", s, Checks.NO_PLACE, () -> s.disc(0, 0, 16, 1, 1));
    }

    private static void shadeOf0() {
        CHECKS.sentence("Adds across * x + along * y + (..) % 13 * rough to each VALUE: 0 each");
        ParallaxSheets s = Checks.drawn(Checks.row(0, 255, 100), Checks.row(1, 2, 3));
        CHECKS.due("the sum", s.shade(0, 0, 0, 0), 361);
        CHECKS.shows("as before", s, 0, Checks.row(0, 255, 100), Checks.row(1, 2, 3));
        CHECKS.due("one field has nothing added", Checks.even(1, 1, 44).shade(0, 50, -50, 50), 44);
    }

    private static void shadeAtItsLimits() {
        CHECKS.sentence("Throws IllegalArgumentException if one of them is not -50 to 50");
        ParallaxSheets s = Checks.even(7, 1, 0);
        CHECKS.due("across 50", s.shade(0, 50, 0, 0), 750 + 255);
        CHECKS.shows("across 50", s, 0, Checks.row(0, 50, 100, 150, 200, 250, 255));
        s.fresh(0, 7, 1, 255);
        CHECKS.due("across -50", s.shade(0, -50, 0, 0), 780);
        CHECKS.shows("across -50", s, 0, Checks.row(255, 205, 155, 105, 55, 5, 0));
        s.fresh(0, 1, 3, 100);
        CHECKS.due("along 50", s.shade(0, 0, 50, 0), 450);
        CHECKS.due("along -50", s.shade(0, 0, -50, 0), 300);
        s.fresh(0, 4, 1, 0);
        // 5 * x % 13 is 0, 5, 10, 2
        CHECKS.due("rough 50", s.shade(0, 0, 0, 50), 605);
        CHECKS.shows("rough 50", s, 0, Checks.row(0, 250, 255, 100));
        s.fresh(0, 4, 1, 255);
        CHECKS.due("rough -50", s.shade(0, 0, 0, -50), 415);
        CHECKS.shows("rough -50", s, 0, Checks.row(255, 5, 0, 155));
        int[][] wrong = {{51, 0, 0}, {-51, 0, 0}, {0, 51, 0}, {0, -51, 0}, {0, 0, 51}, {0, 0, -51}};
        for (int[] w : wrong) {
            CHECKS.refuses("shade", s, Checks.NO_ARGUMENT, () -> s.shade(0, w[0], w[1], w[2]));
        }
    }

    private static void shadeAtTheLastField() {
        CHECKS.sentence("(x * 5 + y * 11 + x * y * 3) % 13 * rough");
        ParallaxSheets s = Checks.even(3, 3, 0);
        CHECKS.due("the sum", s.shade(0, 0, 0, 1), 54);
        CHECKS.shows("rough alone", s, 0, Checks.row(0, 5, 10), Checks.row(11, 6, 1), Checks.row(9, 7, 5));
        s.fresh(0, 16, 16, 100);
        s.shade(0, 1, 2, 3);
        CHECKS.due("the first", s.value(0, 0, 0), 100);
        // 75 % 13 = 10, 165 % 13 = 9, 915 % 13 = 5
        CHECKS.due("the last of the first row", s.value(0, 15, 0), 100 + 15 + 30);
        CHECKS.due("the first of the last row", s.value(0, 0, 15), 100 + 30 + 27);
        CHECKS.due("the last", s.value(0, 15, 15), 100 + 15 + 30 + 15);
    }

    private static void shadeSums() {
        CHECKS.sentence("Returns the sum of all VALUES then.");
        CHECKS.due("the largest", Checks.even(16, 16, 255).shade(0, 50, 50, 50), 256 * 255);
        CHECKS.due("the smallest", Checks.even(16, 16, 0).shade(0, -50, -50, -50), 0);
        CHECKS.due("each value once", Checks.eachValueOnce().shade(0, 0, 0, 0), 255 * 128);
    }

    private static void copyOfAnotherSize() {
        CHECKS.sentence("Returns how many FIELDS have another VALUE then, if its W and H were the same; -1 if not.");
        int[][] sides = {{2, 3, 3, 2}, {2, 3, 2, 4}, {2, 3, 1, 3}, {1, 1, 16, 16}, {16, 16, 1, 1}, {16, 1, 1, 16}};
        for (int[] side : sides) {
            ParallaxSheets s = Checks.even(side[0], side[1], 5);
            s.fresh(1, side[2], side[3], 5);
            CHECKS.due("of another size", s.copy(0, 1), -1);
            CHECKS.isAll("of another size", s, 1, side[0], side[1], 5);
            CHECKS.due("now of the same", s.copy(0, 1), 0);
        }
    }

    private static void copyOfTheSameSize() {
        CHECKS.sentence("how many FIELDS have another VALUE then: none, one, all, and a SHEET onto itself");
        ParallaxSheets s = Checks.eachValueOnce();
        s.fresh(1, 16, 16, 3);
        CHECKS.due("all but one", s.copy(0, 1), 255);
        CHECKS.due("none", s.copy(0, 1), 0);
        s.dot(0, 15, 15, 0);
        CHECKS.due("one", s.copy(0, 1), 1);
        s.values(0, 0);
        CHECKS.due("all", s.copy(0, 1), 256);
        CHECKS.due("itself", s.copy(3, 3), 0);
        CHECKS.isAll("itself", s, 3, 8, 8, 0);
        CHECKS.refuses("from -1", s, Checks.NO_PLACE, () -> s.copy(-1, 0));
        CHECKS.refuses("from 4", s, Checks.NO_PLACE, () -> s.copy(4, 0));
        CHECKS.refuses("to -1", s, Checks.NO_PLACE, () -> s.copy(0, -1));
        CHECKS.refuses("to 4", s, Checks.NO_PLACE, () -> s.copy(0, 4));
    }

    private static void copyStandsAlone() {
        CHECKS.sentence("the SHEET that becomes as the other one is now");
        ParallaxSheets s = Checks.drawn(Checks.row(1, 2), Checks.row(3, 4));
        s.copy(0, 3);
        s.dot(0, 0, 0, 9);
        s.dot(3, 1, 1, 8);
        CHECKS.shows("the one", s, 0, Checks.row(9, 2), Checks.row(3, 4));
        CHECKS.shows("the other", s, 3, Checks.row(1, 2), Checks.row(3, 8));
    }

    private static void mixOfShare0And100() {
        CHECKS.sentence("Throws IllegalArgumentException if share is not 0 to 100");
        ParallaxSheets s = Checks.drawn(Checks.row(255, 1, 0, 99));
        Checks.draw(s, 1, Checks.row(0, 0, 255, 99));
        CHECKS.due("share 0", s.mix(0, 1, 0), 0);
        CHECKS.shows("share 0", s, 0, Checks.row(255, 1, 0, 99));
        CHECKS.due("share 100", s.mix(0, 1, 100), 3);
        CHECKS.shows("share 100", s, 0, Checks.row(0, 0, 255, 99));
        CHECKS.refuses("share -1", s, Checks.NO_ARGUMENT, () -> s.mix(0, 1, -1));
        CHECKS.refuses("share 101", s, Checks.NO_ARGUMENT, () -> s.mix(0, 1, 101));
    }

    private static void mixIsCut() {
        CHECKS.sentence("(VALUE * (100 - share) + VALUE of the other one * share) / 100");
        int[][] shareAndWant = {{1, 252, 0, 2, 99}, {50, 127, 0, 127, 99}, {99, 2, 0, 252, 99}};
        for (int[] w : shareAndWant) {
            ParallaxSheets s = Checks.drawn(Checks.row(255, 1, 0, 99));
            Checks.draw(s, 1, Checks.row(0, 0, 255, 100));
            CHECKS.due("changed", s.mix(0, 1, w[0]), 3);
            CHECKS.shows("share " + w[0], s, 0, Checks.row(w[1], w[2], w[3], w[4]));
        }
        for (int share = 0; share <= 100; share++) {
            ParallaxSheets s = Checks.even(16, 16, 255);
            s.fresh(1, 16, 16, 255);
            CHECKS.due("the same, share " + share, s.mix(0, 1, share), 0);
            CHECKS.due("with itself, share " + share, s.mix(0, 0, share), 0);
        }
    }

    private static void mixNeedsTheSameSides() {
        CHECKS.sentence("Throws IllegalStateException if W or H is not the same");
        int[][] sides = {{2, 3, 3, 2}, {2, 3, 2, 4}, {2, 3, 1, 3}, {1, 1, 16, 16}, {16, 1, 1, 16}};
        for (int[] side : sides) {
            ParallaxSheets s = Checks.even(side[0], side[1], 5);
            s.fresh(1, side[2], side[3], 9);
            CHECKS.refuses("mix", s, Checks.NO_STATE, () -> s.mix(0, 1, 50));
            CHECKS.refuses("mix the other way", s, Checks.NO_STATE, () -> s.mix(1, 0, 0));
            CHECKS.refuses("difference", s, Checks.NO_STATE, () -> s.difference(0, 1));
            CHECKS.refuses("difference the other way", s, Checks.NO_STATE, () -> s.difference(1, 0));
        }
        ParallaxSheets one = Checks.even(1, 1, 10);
        one.fresh(1, 1, 1, 20);
        CHECKS.due("one field", one.mix(0, 1, 50), 1);
        CHECKS.due("one field", one.value(0, 0, 0), 15);
    }

    private static void turnOfOneField() {
        CHECKS.sentence("Returns how many FIELDS it has then: of one FIELD");
        int[] want = {1, 1, 1, 4};
        int[] side = {1, 1, 1, 2};
        for (int how = 0; how <= 3; how++) {
            ParallaxSheets s = Checks.even(1, 1, 255);
            CHECKS.due("how " + how, s.turn(0, how), want[how]);
            CHECKS.isAll("how " + how, s, 0, side[how], side[how], 255);
        }
    }

    private static void turnOfRowsAndColumns() {
        CHECKS.sentence("0 a quarter turn (what was at (x, y) is at (H - 1 - y, x)), 1 mirrored across ((W - 1 - x, y))");
        ParallaxSheets s = Checks.drawn(Checks.row(1, 2, 3));
        CHECKS.due("a row", s.turn(0, 0), 3);
        CHECKS.shows("a row becomes a column", s, 0, Checks.row(1), Checks.row(2), Checks.row(3));
        CHECKS.due("a column mirrored", s.turn(0, 1), 3);
        CHECKS.shows("a column mirrored", s, 0, Checks.row(1), Checks.row(2), Checks.row(3));
        CHECKS.due("a column", s.turn(0, 0), 3);
        CHECKS.shows("a column becomes a row", s, 0, Checks.row(3, 2, 1));
        CHECKS.due("a row mirrored", s.turn(0, 1), 3);
        CHECKS.shows("a row mirrored", s, 0, Checks.row(1, 2, 3));
        Checks.draw(s, 0, Checks.row(1, 2));
        CHECKS.due("a row twice as large", s.turn(0, 3), 8);
        CHECKS.shows("a row twice as large", s, 0, Checks.row(1, 1, 2, 2), Checks.row(1, 1, 2, 2));
    }

    private static void turnOfTheLargest() {
        CHECKS.sentence("turn of 16 times 16");
        ParallaxSheets s = Checks.eachValueOnce();
        CHECKS.due("a quarter", s.turn(0, 0), 256);
        corners(s, "a quarter", 240, 0, 255, 15);
        CHECKS.due("mirrored", s.turn(0, 1), 256);
        corners(s, "mirrored", 0, 240, 15, 255);
        for (int i = 0; i < 4; i++) {
            s.turn(0, 0);
        }
        corners(s, "four quarters", 0, 240, 15, 255);
        CHECKS.refuses("twice", s, Checks.NO_STATE, () -> s.turn(0, 3));
        ParallaxSheets half = Checks.eachValueOnce();
        CHECKS.due("half", half.turn(0, 2), 64);
        // (4 * v + 1 + 16 + 17) / 4 = v + 8
        CHECKS.due("the first", half.value(0, 0, 0), 8);
        CHECKS.due("one within", half.value(0, 3, 4), 6 + 16 * 8 + 8);
        CHECKS.due("the last", half.value(0, 7, 7), 14 + 16 * 14 + 8);
        ParallaxSheets row = Checks.even(16, 1, 3);
        CHECKS.due("a row", row.turn(0, 0), 16);
        CHECKS.isAll("a row", row, 0, 1, 16, 3);
        CHECKS.due("half a column", row.turn(0, 2), 8);
        CHECKS.isAll("half a column", row, 0, 1, 8, 3);
    }

    private static void corners(ParallaxSheets s, String what, int first, int second, int third, int fourth) {
        CHECKS.due(what + ": up to the left", s.value(0, 0, 0), first);
        CHECKS.due(what + ": up to the right", s.value(0, 15, 0), second);
        CHECKS.due(what + ": down to the left", s.value(0, 0, 15), third);
        CHECKS.due(what + ": down to the right", s.value(0, 15, 15), fourth);
    }

    private static void turnHalfOfOddSides() {
        CHECKS.sentence("2 half as large (each W / 2 and H / 2, 1 at least; .., with BESIDE, / 4)");
        int[][] sides = {{1, 1, 1, 1}, {2, 2, 1, 1}, {3, 3, 1, 1}, {1, 2, 1, 1}, {2, 1, 1, 1}, {3, 1, 1, 1}, {4, 5, 2, 2},
            {1, 16, 1, 8}, {16, 1, 8, 1}, {15, 16, 7, 8}, {16, 15, 8, 7}, {1, 15, 1, 7}};
        for (int[] side : sides) {
            ParallaxSheets s = Checks.even(side[0], side[1], 211);
            CHECKS.due("half", s.turn(0, 2), side[2] * side[3]);
            CHECKS.isAll("half", s, 0, side[2], side[3], 211);
        }
        ParallaxSheets s = Checks.drawn(Checks.row(4, 8, 255), Checks.row(12, 16, 255), Checks.row(255, 255, 255));
        s.turn(0, 2);
        CHECKS.shows("without the odd ones", s, 0, Checks.row(10));
    }

    private static void turnHalfIsCut() {
        CHECKS.sentence("the sum of those at 2 * x and 2 * x + 1, 2 * y and 2 * y + 1, with BESIDE, / 4");
        ParallaxSheets s = Checks.drawn(Checks.row(1, 1), Checks.row(1, 0));
        s.turn(0, 2);
        CHECKS.shows("3 / 4", s, 0, Checks.row(0));
        Checks.draw(s, 0, Checks.row(255, 255), Checks.row(254, 255));
        s.turn(0, 2);
        CHECKS.shows("1019 / 4", s, 0, Checks.row(254));
        Checks.draw(s, 0, Checks.row(3, 6));
        s.turn(0, 2);
        CHECKS.shows("a row: 18 / 4", s, 0, Checks.row(4));
        Checks.draw(s, 0, Checks.row(3), Checks.row(6), Checks.row(100));
        s.turn(0, 2);
        CHECKS.shows("a column: 18 / 4", s, 0, Checks.row(4));
        Checks.draw(s, 0, Checks.row(0, 4, 10, 20, 31, 37), Checks.row(8, 1, 12, 22, 33, 39),
                Checks.row(100, 104, 150, 151, 200, 204), Checks.row(110, 90, 152, 153, 208, 212));
        CHECKS.due("six of 24", s.turn(0, 2), 6);
        CHECKS.shows("six of 24", s, 0, Checks.row(3, 16, 35), Checks.row(101, 151, 206));
    }

    private static void turnTwiceUpTo16() {
        CHECKS.sentence("Throws IllegalStateException if W or H would be above 16");
        int[][] fit = {{8, 8}, {1, 8}, {8, 1}};
        for (int[] side : fit) {
            ParallaxSheets s = Checks.even(side[0], side[1], 6);
            CHECKS.due("up to 16", s.turn(0, 3), 4 * side[0] * side[1]);
            CHECKS.isAll("up to 16", s, 0, 2 * side[0], 2 * side[1], 6);
        }
        int[][] above = {{9, 8}, {8, 9}, {9, 1}, {1, 9}, {9, 9}, {16, 16}};
        for (int[] side : above) {
            ParallaxSheets s = Checks.even(side[0], side[1], 6);
            CHECKS.refuses("above 16", s, Checks.NO_STATE, () -> s.turn(0, 3));
            CHECKS.isAll("above 16", s, 0, side[0], side[1], 6);
        }
        ParallaxSheets s = Checks.drawn(Checks.row(1, 2), Checks.row(3, 4));
        s.turn(0, 3);
        CHECKS.shows("the VALUE at (x, y) is that at (x / 2, y / 2)", s, 0, Checks.row(1, 1, 2, 2),
                Checks.row(1, 1, 2, 2), Checks.row(3, 3, 4, 4), Checks.row(3, 3, 4, 4));
    }
}
