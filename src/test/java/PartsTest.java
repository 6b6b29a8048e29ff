/** Promises 19 to 25: parts and distances. */
public final class PartsTest {
    private static final Checks CHECKS = new Checks();

    public static void main(String[] args) {
        promise19Parts();
        promise20Holes();
        promise21PartOf();
        promise22Part();
        promise22Sides();
        promise23Keep();
        promise24Far();
        promise24FarWithoutOthers();
        promise25Spread();
        CHECKS.close();
    }

    private static void promise19Parts() {
        ParallaxSheets s = Checks.drawn("#.#", ".#.", "#.#");
        CHECKS.due("corners do not join by 4", s.parts(0, 4), 5);
        CHECKS.due("corners join by 8", s.parts(0, 8), 1);
        CHECKS.due("none", s.parts(1, 4), 0);
        s.fresh(1, 16, 16, 128);
        CHECKS.due("all one", s.parts(1, 4), 1);
        s.fresh(1, 16, 16, 127);
        CHECKS.due("127 is not on", s.parts(1, 8), 0);
        for (int i = 0; i < 128; i++) {
            s.dot(1, i % 8 * 2 + i / 8 % 2, i / 8, 128);
        }
        CHECKS.due("a chessboard by 4", s.parts(1, 4), 128);
        CHECKS.due("a chessboard by 8", s.parts(1, 8), 1);
        Checks.draw(s, 2, "..#", "...", "#..");
        CHECKS.due("rows do not run on", s.parts(2, 8), 2);
        Checks.draw(s, 2, "#....#", "#.##.#", "#.#..#", "#.####", "#.....", "######");
        CHECKS.due("two hooks round one another", s.parts(2, 4), 2);
        s.dot(2, 5, 4, 128);
        CHECKS.due("a spiral", s.parts(2, 4), 1);
        CHECKS.refuses("no sheet", s, Checks.NO_PLACE, () -> s.parts(4, 5));
        CHECKS.refuses("ways 5", s, Checks.NO_ARGUMENT, () -> s.parts(0, 5));
        CHECKS.refuses("ways 0", s, Checks.NO_ARGUMENT, () -> s.parts(0, 0));
        CHECKS.refuses("ways -4", s, Checks.NO_ARGUMENT, () -> s.parts(0, -4));
    }

    private static void promise20Holes() {
        ParallaxSheets s = Checks.drawn("####", "#..#", "####");
        CHECKS.due("a ring by 4", s.holes(0, 4), 1);
        CHECKS.due("a ring by 8", s.holes(0, 8), 1);
        Checks.draw(s, 0, ".#.", "#.#", ".#.");
        CHECKS.due("by 4 the middle leaks over the corners", s.holes(0, 4), 0);
        CHECKS.due("by 8 it does not", s.holes(0, 8), 1);
        Checks.draw(s, 0, "#####", "#.#.#", "##.##", "#.#.#", "#####");
        CHECKS.due("five corners by 4 are one", s.holes(0, 4), 1);
        CHECKS.due("by 8 they are five", s.holes(0, 8), 5);
        Checks.draw(s, 0, "###", "..#", "###");
        CHECKS.due("open to the left", s.holes(0, 8), 0);
        Checks.draw(s, 0, "###", "#.#", "#.#");
        CHECKS.due("open below", s.holes(0, 8), 0);
        Checks.draw(s, 0, "###", "#..", "###");
        CHECKS.due("open to the right", s.holes(0, 8), 0);
        Checks.draw(s, 0, "#.#", "#.#", "###");
        CHECKS.due("open above", s.holes(0, 8), 0);
        CHECKS.due("none on", s.holes(1, 4), 0);
        CHECKS.refuses("no sheet", s, Checks.NO_PLACE, () -> s.holes(-1, 5));
        CHECKS.refuses("ways 6", s, Checks.NO_ARGUMENT, () -> s.holes(0, 6));
    }

    private static void promise21PartOf() {
        ParallaxSheets s = Checks.drawn("..#.", "#..#", "##..");
        CHECKS.due("first by row", s.partOf(0, 4, 2, 0), 0);
        CHECKS.due("second by row", s.partOf(0, 4, 0, 1), 1);
        CHECKS.due("third by row", s.partOf(0, 4, 3, 1), 2);
        CHECKS.due("of the second", s.partOf(0, 4, 1, 2), 1);
        CHECKS.due("joined by a corner", s.partOf(0, 8, 3, 1), 0);
        CHECKS.due("then the second", s.partOf(0, 8, 1, 2), 1);
        CHECKS.due("not on", s.partOf(0, 8, 3, 2), -1);
        CHECKS.refuses("no sheet", s, Checks.NO_PLACE, () -> s.partOf(4, 5, 0, 0));
        CHECKS.refuses("x 4 before ways", s, Checks.NO_PLACE, () -> s.partOf(0, 5, 4, 0));
        CHECKS.refuses("x -1", s, Checks.NO_PLACE, () -> s.partOf(0, 4, -1, 0));
        CHECKS.refuses("y 3", s, Checks.NO_PLACE, () -> s.partOf(0, 4, 0, 3));
        CHECKS.refuses("y -1", s, Checks.NO_PLACE, () -> s.partOf(0, 8, 0, -1));
        CHECKS.refuses("ways 5", s, Checks.NO_ARGUMENT, () -> s.partOf(0, 5, 0, 0));
    }

    private static void facts(ParallaxSheets s, int ways, int part, int... want) {
        for (int what = 0; what < want.length; what++) {
            CHECKS.due("part " + part + " by " + ways + ", what " + what, s.part(0, ways, part, what), want[what]);
        }
    }

    private static void promise22Part() {
        ParallaxSheets s = Checks.drawn(".....#", ".##...", "..###.", "#....#");
        facts(s, 4, 0, 1, 5, 0, 5, 0, 4);
        facts(s, 4, 1, 5, 1, 1, 4, 2, 12);
        facts(s, 4, 2, 1, 0, 3, 0, 3, 4);
        facts(s, 4, 3, 1, 5, 3, 5, 3, 4);
        facts(s, 8, 1, 6, 1, 1, 5, 3, 16);
        CHECKS.refuses("part 4", s, Checks.NO_ARGUMENT, () -> s.part(0, 4, 4, 0));
        CHECKS.refuses("part 3 by 8", s, Checks.NO_ARGUMENT, () -> s.part(0, 8, 3, 0));
        CHECKS.refuses("part -1", s, Checks.NO_ARGUMENT, () -> s.part(0, 4, -1, 0));
        CHECKS.refuses("what 6", s, Checks.NO_ARGUMENT, () -> s.part(0, 4, 0, 6));
        CHECKS.refuses("what -1", s, Checks.NO_ARGUMENT, () -> s.part(0, 4, 0, -1));
        CHECKS.refuses("ways 3", s, Checks.NO_ARGUMENT, () -> s.part(0, 3, 0, 0));
        CHECKS.refuses("no part at all", s, Checks.NO_ARGUMENT, () -> s.part(1, 4, 0, 0));
        CHECKS.refuses("no sheet", s, Checks.NO_PLACE, () -> s.part(4, 3, 9, 9));
    }

    private static void promise22Sides() {
        ParallaxSheets s = Checks.drawn("###", "#.#", "###");
        CHECKS.due("the hole's sides and the sheet's edges", s.part(0, 4, 0, 5), 16);
        Checks.draw(s, 0, "#.", ".#");
        CHECKS.due("a corner is no side", s.part(0, 8, 0, 5), 8);
        s.fresh(0, 16, 16, 255);
        CHECKS.due("all edges", s.part(0, 4, 0, 5), 64);
        CHECKS.due("greatest x", s.part(0, 4, 0, 3), 15);
        CHECKS.due("how many", s.part(0, 4, 0, 0), 256);
    }

    private static void promise23Keep() {
        ParallaxSheets s = Checks.drawn("##.#", "...#", "#..#");
        CHECKS.due("the largest", s.keep(0, 4), 3);
        CHECKS.shows("the largest, and what was not on", s, 0,
                Checks.row(0, 0, 127, 128), Checks.row(127, 127, 127, 128), Checks.row(0, 127, 127, 128));
        CHECKS.due("kept already", s.keep(0, 4), 0);
        Checks.draw(s, 0, "##..", "..##", "....");
        s.copy(0, 1);
        CHECKS.due("of two the first", s.keep(0, 4), 2);
        CHECKS.due("the first is there", s.value(0, 1, 0), 128);
        CHECKS.due("the second is not", s.value(0, 2, 1), 0);
        CHECKS.due("by 8 they are one", s.keep(1, 8), 0);
        CHECKS.due("without any", s.keep(2, 8), 0);
        s.fresh(2, 2, 2, 100);
        CHECKS.due("without any", s.keep(2, 4), 0);
        CHECKS.due("what is not on stays", s.sheet(2, 4), 400);
        CHECKS.refuses("no sheet", s, Checks.NO_PLACE, () -> s.keep(4, 1));
        CHECKS.refuses("ways 1", s, Checks.NO_ARGUMENT, () -> s.keep(0, 1));
    }

    private static void promise24Far() {
        ParallaxSheets s = Checks.drawn("####.", "#####", "#####", "#####");
        CHECKS.due("sum of both", s.far(0, 0, 1, 2), 5);
        CHECKS.due("greater of both", s.far(0, 1, 1, 2), 3);
        CHECKS.due("squares", s.far(0, 2, 1, 2), 13);
        CHECKS.due("the farthest, not the edge", s.far(0, 2, 0, 3), 25);
        CHECKS.due("not on", s.far(0, 0, 4, 0), 0);
        s.dot(0, 0, 0, 0);
        CHECKS.due("the nearer one", s.far(0, 0, 1, 2), 3);
        CHECKS.due("the nearer one", s.far(0, 1, 1, 2), 2);
        CHECKS.due("the nearer one", s.far(0, 2, 1, 2), 5);
        CHECKS.refuses("no sheet", s, Checks.NO_PLACE, () -> s.far(4, 3, 0, 0));
        CHECKS.refuses("x 5 before way", s, Checks.NO_PLACE, () -> s.far(0, 3, 5, 0));
        CHECKS.refuses("x -1", s, Checks.NO_PLACE, () -> s.far(0, 0, -1, 0));
        CHECKS.refuses("y 4", s, Checks.NO_PLACE, () -> s.far(0, 0, 0, 4));
        CHECKS.refuses("y -1", s, Checks.NO_PLACE, () -> s.far(0, 0, 0, -1));
        CHECKS.refuses("way 3", s, Checks.NO_ARGUMENT, () -> s.far(0, 3, 0, 0));
        CHECKS.refuses("way -1", s, Checks.NO_ARGUMENT, () -> s.far(0, -1, 0, 0));
    }

    private static void promise24FarWithoutOthers() {
        ParallaxSheets s = new ParallaxSheets();
        s.fresh(0, 5, 7, 128);
        int[][] want = {{0, 0, 1}, {4, 6, 1}, {2, 3, 3}, {1, 3, 2}, {3, 3, 2}, {2, 1, 2}, {2, 5, 2}, {2, 4, 3}};
        for (int[] at : want) {
            CHECKS.due("sum at " + at[0] + ", " + at[1], s.far(0, 0, at[0], at[1]), at[2]);
            CHECKS.due("greater at " + at[0] + ", " + at[1], s.far(0, 1, at[0], at[1]), at[2]);
            CHECKS.due("squares at " + at[0] + ", " + at[1], s.far(0, 2, at[0], at[1]), at[2] * at[2]);
        }
    }

    private static void promise25Spread() {
        ParallaxSheets s = Checks.drawn(".####", "#####");
        s.copy(0, 1);
        s.copy(0, 2);
        CHECKS.due("sums", s.spread(0, 0), 5);
        CHECKS.shows("sums", s, 0, Checks.row(0, 10, 20, 30, 40), Checks.row(10, 20, 30, 40, 50));
        CHECKS.due("greater ones", s.spread(1, 1), 4);
        CHECKS.shows("greater ones", s, 1, Checks.row(0, 10, 20, 30, 40), Checks.row(10, 10, 20, 30, 40));
        CHECKS.due("squares", s.spread(2, 2), 17);
        CHECKS.shows("squares", s, 2, Checks.row(0, 10, 40, 90, 160), Checks.row(10, 20, 50, 100, 170));
        s.fresh(3, 16, 16, 200);
        s.dot(3, 15, 15, 127);
        CHECKS.due("not kept at 25", s.spread(3, 2), 450);
        CHECKS.due("255 at most", s.value(3, 0, 0), 255);
        CHECKS.due("255 at most", s.value(3, 10, 14), 255);
        CHECKS.due("25 is 250", s.value(3, 10, 15), 250);
        s.fresh(3, 3, 3, 200);
        CHECKS.due("all on", s.spread(3, 1), 2);
        CHECKS.shows("all on", s, 3, Checks.row(10, 10, 10), Checks.row(10, 20, 10), Checks.row(10, 10, 10));
        CHECKS.due("none on", s.spread(3, 0), 0);
        CHECKS.due("none on", s.sheet(3, 4), 0);
        CHECKS.refuses("no sheet", s, Checks.NO_PLACE, () -> s.spread(4, 3));
        CHECKS.refuses("way 3", s, Checks.NO_ARGUMENT, () -> s.spread(0, 3));
        CHECKS.refuses("way -1", s, Checks.NO_ARGUMENT, () -> s.spread(0, -1));
    }
}
