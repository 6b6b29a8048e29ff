/** Each sentence that names a boundary in promises 19 to 25, and in what the Terms say of PARTS. */
public final class PartsEdgesTest {
    private static final Checks CHECKS = new Checks();
    private static final int[][] SIDES = {{1, 1}, {16, 1}, {1, 16}, {2, 2}, {16, 16}};

    public static void main(String[] args) {
        onIsAtLeast128();
        noFieldIsOn();
        everyFieldIsOn();
        partsOverSidesOrCorners();
        partsDoNotGoRoundTheEdges();
        partsByTheMost();
        partsAreNumberedByTheirFirstFields();
        waysAre4Or8();
        holesGoTheOtherWay();
        holesHaveNoFieldAtAnEdge();
        holesByTheMost();
        partOfAtTheCorners();
        partOfTheLastNumber();
        partBoundsAndSides();
        partSidesAtTheEdges();
        keepOfSeveralTheFirst();
        keepTheLargestWherever();
        keepLeavesWhatIsNotOn();
        farByEachWay();
        farWithoutFieldsThatAreNotOn();
        farCountsNothingBesideOtherwise();
        farOfWhatIsNotOn();
        spreadIs255AtMost();
        spreadOfNoneAndOfAll();
        spreadAnswersTheGreatest();
        wayIs0To2();
        CHECKS.close();
    }

    private static String sized(String what, int[] side) {
        return what + " in " + side[0] + " times " + side[1];
    }

    private static void onIsAtLeast128() {
        CHECKS.sentence("A FIELD is ON, if its VALUE is at least 128.");
        int[] values = {0, 1, 127, 128, 129, 254, 255};
        for (int value : values) {
            ParallaxSheets s = Checks.even(1, 1, value);
            int on = value >= 128 ? 1 : 0;
            CHECKS.due("parts of " + value, s.parts(0, 4), on);
            CHECKS.due("parts by 8 of " + value, s.parts(0, 8), on);
            CHECKS.due("part of " + value, s.partOf(0, 4, 0, 0), on - 1);
            CHECKS.due("far of " + value, s.far(0, 2, 0, 0), on);
            ParallaxSheets ring = Checks.even(3, 3, 128);
            ring.dot(0, 1, 1, value);
            CHECKS.due("holes with " + value, ring.holes(0, 4), 1 - on);
            CHECKS.due("sides with " + value, ring.part(0, 4, 0, 5), on == 1 ? 12 : 16);
            ParallaxSheets two = Checks.drawn(Checks.row(128, value, 0, 128));
            CHECKS.due("keep with " + value, two.keep(0, 4), 1);
            CHECKS.due("keep leaves " + value, two.value(0, 1, 0), value);
        }
    }

    private static void noFieldIsOn() {
        CHECKS.sentence("a SHEET with no FIELD that is ON");
        for (int[] side : SIDES) {
            for (int ways = 4; ways <= 8; ways += 4) {
                int by = ways;
                ParallaxSheets s = Checks.even(side[0], side[1], 127);
                CHECKS.due(sized("parts", side), s.parts(0, by), 0);
                CHECKS.due(sized("holes", side), s.holes(0, by), 0);
                CHECKS.due(sized("part of the first", side), s.partOf(0, by, 0, 0), -1);
                CHECKS.due(sized("part of the last", side), s.partOf(0, by, side[0] - 1, side[1] - 1), -1);
                CHECKS.refuses(sized("part 0", side), s, Checks.NO_ARGUMENT, () -> s.part(0, by, 0, 0));
                CHECKS.refuses(sized("part -1", side), s, Checks.NO_ARGUMENT, () -> s.part(0, by, -1, 0));
                CHECKS.due(sized("keep", side), s.keep(0, by), 0);
                CHECKS.isAll(sized("kept", side), s, 0, side[0], side[1], 127);
                CHECKS.due(sized("parts at 128", side), s.partsAt(0, by, 128), 0);
                CHECKS.due(sized("parts at 127", side), s.partsAt(0, by, 127), 1);
            }
        }
    }

    private static void everyFieldIsOn() {
        CHECKS.sentence("a SHEET with every FIELD ON");
        for (int[] side : SIDES) {
            int w = side[0];
            int h = side[1];
            for (int ways = 4; ways <= 8; ways += 4) {
                int by = ways;
                ParallaxSheets s = Checks.even(w, h, 128);
                CHECKS.due(sized("parts", side), s.parts(0, by), 1);
                CHECKS.due(sized("holes", side), s.holes(0, by), 0);
                CHECKS.due(sized("part of the first", side), s.partOf(0, by, 0, 0), 0);
                CHECKS.due(sized("part of the last", side), s.partOf(0, by, w - 1, h - 1), 0);
                int[] want = {w * h, 0, 0, w - 1, h - 1, 2 * (w + h)};
                for (int what = 0; what <= 5; what++) {
                    CHECKS.due(sized("part 0, what " + what, side), s.part(0, by, 0, what), want[what]);
                }
                CHECKS.refuses(sized("part 1", side), s, Checks.NO_ARGUMENT, () -> s.part(0, by, 1, 0));
                CHECKS.due(sized("keep", side), s.keep(0, by), 0);
                CHECKS.isAll(sized("kept", side), s, 0, w, h, 128);
            }
        }
    }

    private static void partsOverSidesOrCorners() {
        CHECKS.sentence("of which one comes from each to each other; over sides (4 ways), or also over corners (8 ways)");
        String[][] corners = {{"#.", ".#"}, {".#", "#."}};
        for (String[] rows : corners) {
            ParallaxSheets s = Checks.drawn(rows);
            CHECKS.due("over a corner by 4", s.parts(0, 4), 2);
            CHECKS.due("over a corner by 8", s.parts(0, 8), 1);
        }
        String[][] sides = {{"##", ".."}, {"..", "##"}, {"#.", "#."}, {".#", ".#"}};
        for (String[] rows : sides) {
            ParallaxSheets s = Checks.drawn(rows);
            CHECKS.due("over a side by 4", s.parts(0, 4), 1);
            CHECKS.due("over a side by 8", s.parts(0, 8), 1);
        }
        String[][] apart = {{"#.#", "..."}, {"#..", "...", "#.."}, {"#..", "..."}, {"#..", "...", "..#"}};
        int[] want = {2, 2, 1, 2};
        for (int i = 0; i < apart.length; i++) {
            ParallaxSheets s = Checks.drawn(apart[i]);
            CHECKS.due("apart by 4", s.parts(0, 4), want[i]);
            CHECKS.due("apart by 8", s.parts(0, 8), want[i]);
        }
    }

    private static void partsDoNotGoRoundTheEdges() {
        CHECKS.sentence("the end of a row and the start of the next one are not beside one another");
        String[][] pictures = {{"..#", "#.."}, {"#..", "..#"}, {"#.#", "..."}, {"#..", "...", "#.."},
            {"#...", "...#", "...."}, {"...#", "....", "#..."}};
        for (String[] rows : pictures) {
            ParallaxSheets s = Checks.drawn(rows);
            CHECKS.due("by 4", s.parts(0, 4), 2);
            CHECKS.due("by 8", s.parts(0, 8), 2);
        }
    }

    private static void partsByTheMost() {
        CHECKS.sentence("Returns how many PARTS there are: the most that can be");
        ParallaxSheets s = Checks.chessboard();
        CHECKS.due("a chessboard by 4", s.parts(0, 4), 128);
        CHECKS.due("a chessboard by 8", s.parts(0, 8), 1);
        Checks.draw(s, 1, "#.#.#.#.#.#.#.#.");
        CHECKS.due("a row by 4", s.parts(1, 4), 8);
        CHECKS.due("a row by 8", s.parts(1, 8), 8);
        s.turn(1, 0);
        CHECKS.due("a column by 4", s.parts(1, 4), 8);
        CHECKS.due("a column by 8", s.parts(1, 8), 8);
        ParallaxSheets apart = Checks.even(16, 16, 0);
        for (int i = 0; i < 64; i++) {
            apart.dot(0, i % 8 * 2, i / 8 * 2, 255);
        }
        CHECKS.due("each second of both by 8", apart.parts(0, 8), 64);
    }

    private static void partsAreNumberedByTheirFirstFields() {
        CHECKS.sentence("PARTS are numbered from 0 by their first FIELDS, row by row.");
        ParallaxSheets s = Checks.drawn("...#.", "##.#.", ".#..#");
        CHECKS.due("the first is not the one to the left", s.partOf(0, 4, 3, 1), 0);
        CHECKS.due("the second", s.partOf(0, 4, 0, 1), 1);
        CHECKS.due("the second, further on", s.partOf(0, 4, 1, 2), 1);
        CHECKS.due("the third", s.partOf(0, 4, 4, 2), 2);
        CHECKS.due("by 8 it is of the first", s.partOf(0, 8, 4, 2), 0);
        Checks.draw(s, 0, "#..#.#", "####.#", ".....#", "#...##");
        CHECKS.due("joined further down", s.partOf(0, 4, 3, 0), 0);
        CHECKS.due("so the next is 1", s.partOf(0, 4, 5, 0), 1);
        CHECKS.due("and it goes on", s.partOf(0, 4, 4, 3), 1);
        CHECKS.due("the last", s.partOf(0, 4, 0, 3), 2);
    }

    private static void waysAre4Or8() {
        CHECKS.sentence("Throws IllegalArgumentException if ways is not 4 or 8");
        ParallaxSheets s = Checks.drawn("#.#", "...");
        for (int ways : new int[] {-8, -4, 0, 1, 3, 5, 6, 7, 9, 12, 16, Integer.MIN_VALUE, Integer.MAX_VALUE}) {
            CHECKS.refuses("parts", s, Checks.NO_ARGUMENT, () -> s.parts(0, ways));
            CHECKS.refuses("holes", s, Checks.NO_ARGUMENT, () -> s.holes(0, ways));
            CHECKS.refuses("partOf", s, Checks.NO_ARGUMENT, () -> s.partOf(0, ways, 0, 0));
            CHECKS.refuses("part", s, Checks.NO_ARGUMENT, () -> s.part(0, ways, 0, 0));
            CHECKS.refuses("keep", s, Checks.NO_ARGUMENT, () -> s.keep(0, ways));
            CHECKS.refuses("partsAt", s, Checks.NO_ARGUMENT, () -> s.partsAt(0, ways, 128));
        }
    }

    private static void holesGoTheOtherWay() {
        CHECKS.sentence("A HOLE is a PART of FIELDS that are not ON, the other way (8, if PARTS are by 4; 4, if by 8)");
        int[][] corners = {{0, 0}, {2, 0}, {0, 2}, {2, 2}};
        for (int[] corner : corners) {
            ParallaxSheets s = Checks.drawn("###", "#.#", "###");
            CHECKS.due("closed, by 4", s.holes(0, 4), 1);
            CHECKS.due("closed, by 8", s.holes(0, 8), 1);
            s.dot(0, corner[0], corner[1], 0);
            CHECKS.due("over a corner it leaks by 4", s.holes(0, 4), 0);
            CHECKS.due("over a corner it does not by 8", s.holes(0, 8), 1);
        }
        ParallaxSheets s = Checks.drawn("####", "#.##", "##.#", "####");
        CHECKS.due("two over a corner are one by 4", s.holes(0, 4), 1);
        CHECKS.due("and two by 8", s.holes(0, 8), 2);
        Checks.draw(s, 0, "#####", "#...#", "#.#.#", "#...#", "#####");
        CHECKS.due("round a part by 4", s.holes(0, 4), 1);
        CHECKS.due("round a part by 8", s.holes(0, 8), 1);
        CHECKS.due("the part in the hole", s.parts(0, 4), 2);
    }

    private static void holesHaveNoFieldAtAnEdge() {
        CHECKS.sentence("that has no FIELD at an edge of the SHEET");
        int[][] beside = {{1, 0}, {0, 1}, {2, 1}, {1, 2}};
        for (int[] open : beside) {
            ParallaxSheets s = Checks.drawn("###", "#.#", "###");
            s.dot(0, open[0], open[1], 0);
            CHECKS.due("open at an edge, by 4", s.holes(0, 4), 0);
            CHECKS.due("open at an edge, by 8", s.holes(0, 8), 0);
        }
        String[][] tooNarrow = {{"#.#"}, {"#", ".", "#"}, {"#.#.", ".#.#"}, {"#.", ".#", "#.", "##"}, {"."}};
        for (String[] rows : tooNarrow) {
            ParallaxSheets s = Checks.drawn(rows);
            CHECKS.due("all at edges, by 4", s.holes(0, 4), 0);
            CHECKS.due("all at edges, by 8", s.holes(0, 8), 0);
        }
        ParallaxSheets s = Checks.even(16, 16, 255);
        s.box(0, 1, 1, 14, 14, 127);
        CHECKS.due("the largest hole, by 4", s.holes(0, 4), 1);
        CHECKS.due("the largest hole, by 8", s.holes(0, 8), 1);
        s.dot(0, 15, 14, 127);
        CHECKS.due("open at its end, by 4", s.holes(0, 4), 0);
        CHECKS.due("open at its end, by 8", s.holes(0, 8), 0);
    }

    private static void holesByTheMost() {
        CHECKS.sentence("Returns how many HOLES there are: the most that can be");
        ParallaxSheets s = Checks.even(16, 16, 255);
        for (int i = 0; i < 49; i++) {
            s.dot(0, i % 7 * 2 + 1, i / 7 * 2 + 1, 0);
        }
        CHECKS.due("each second of both by 4", s.holes(0, 4), 49);
        CHECKS.due("each second of both by 8", s.holes(0, 8), 49);
        ParallaxSheets board = Checks.chessboard();
        CHECKS.due("a chessboard by 8, but for its edges", board.holes(0, 8), 98);
        CHECKS.due("a chessboard by 4 leaks all over", board.holes(0, 4), 0);
    }

    private static void partOfAtTheCorners() {
        CHECKS.sentence("partOf throws IndexOutOfBoundsException if there is no such SHEET, or FIELD");
        for (int[] side : SIDES) {
            ParallaxSheets s = Checks.even(side[0], side[1], 200);
            int w = side[0];
            int h = side[1];
            CHECKS.due(sized("the last", side), s.partOf(0, 8, w - 1, h - 1), 0);
            CHECKS.refuses(sized("x -1", side), s, Checks.NO_PLACE, () -> s.partOf(0, 4, -1, 0));
            CHECKS.refuses(sized("x W", side), s, Checks.NO_PLACE, () -> s.partOf(0, 4, w, 0));
            CHECKS.refuses(sized("y -1", side), s, Checks.NO_PLACE, () -> s.partOf(0, 8, 0, -1));
            CHECKS.refuses(sized("y H", side), s, Checks.NO_PLACE, () -> s.partOf(0, 8, 0, h));
            CHECKS.refuses(sized("y H and ways 5", side), s, Checks.NO_PLACE, () -> s.partOf(0, 5, 0, h));
        }
    }

    private static void partOfTheLastNumber() {
        CHECKS.sentence("Returns the number of the PART of which this FIELD is; -1 if it is not ON.");
        ParallaxSheets s = Checks.chessboard();
        CHECKS.due("the first", s.partOf(0, 4, 0, 0), 0);
        CHECKS.due("the first of the second row", s.partOf(0, 4, 1, 1), 8);
        CHECKS.due("the last", s.partOf(0, 4, 15, 15), 127);
        CHECKS.due("by 8 they are one", s.partOf(0, 8, 15, 15), 0);
        CHECKS.due("not on", s.partOf(0, 4, 1, 0), -1);
        CHECKS.due("not on, at the edge", s.partOf(0, 8, 0, 15), -1);
        CHECKS.due("the last has one field", s.part(0, 4, 127, 0), 1);
        CHECKS.due("its smallest x", s.part(0, 4, 127, 1), 15);
        CHECKS.due("its smallest y", s.part(0, 4, 127, 2), 15);
        CHECKS.due("its sides", s.part(0, 4, 127, 5), 4);
        CHECKS.due("by 8 it has all", s.part(0, 8, 0, 0), 128);
        CHECKS.due("by 8 all sides", s.part(0, 8, 0, 5), 512);
        CHECKS.refuses("part 128", s, Checks.NO_ARGUMENT, () -> s.part(0, 4, 128, 0));
        CHECKS.refuses("part 1 by 8", s, Checks.NO_ARGUMENT, () -> s.part(0, 8, 1, 0));
        CHECKS.refuses("part -1", s, Checks.NO_ARGUMENT, () -> s.part(0, 4, -1, 0));
    }

    private static void partBoundsAndSides() {
        CHECKS.sentence("0 how many FIELDS it has, 1 the smallest x, 2 the smallest y, 3 the greatest x, "
                + "4 the greatest y, 5 how many sides ..");
        ParallaxSheets s = Checks.drawn(".......", "...#...", "..####.", "...#...", "#......");
        int[][] want = {{6, 2, 1, 5, 3, 14}, {1, 0, 4, 0, 4, 4}};
        for (int part = 0; part < want.length; part++) {
            for (int what = 0; what <= 5; what++) {
                CHECKS.due("part " + part + ", what " + what, s.part(0, 4, part, what), want[part][what]);
            }
        }
        CHECKS.refuses("what -1", s, Checks.NO_ARGUMENT, () -> s.part(0, 4, 0, -1));
        CHECKS.refuses("what 6", s, Checks.NO_ARGUMENT, () -> s.part(0, 4, 0, 6));
    }

    private static void partSidesAtTheEdges() {
        CHECKS.sentence("5 how many sides of its FIELDS are not sides of another FIELD that is ON "
                + "(those at the edges of the SHEET count)");
        int[][] corners = {{0, 0}, {2, 0}, {0, 2}, {2, 2}, {1, 0}, {0, 1}, {2, 1}, {1, 2}, {1, 1}};
        for (int[] at : corners) {
            ParallaxSheets s = Checks.even(3, 3, 0);
            s.dot(0, at[0], at[1], 255);
            CHECKS.due("one field at " + at[0] + ", " + at[1], s.part(0, 4, 0, 5), 4);
        }
        ParallaxSheets s = Checks.drawn("###", "#.#", "###");
        CHECKS.due("those of a hole count", s.part(0, 4, 0, 5), 12 + 4);
        Checks.draw(s, 0, "##", "##");
        CHECKS.due("four together", s.part(0, 4, 0, 5), 8);
        Checks.draw(s, 0, "#.", ".#");
        CHECKS.due("over a corner by 8", s.part(0, 8, 0, 5), 8);
        CHECKS.due("over a corner by 4", s.part(0, 4, 0, 5), 4);
    }

    private static void keepOfSeveralTheFirst() {
        CHECKS.sentence("Keeps only the PART with the most FIELDS, of several that with the smallest number");
        ParallaxSheets s = Checks.drawn("##.##", ".....", "##.##");
        CHECKS.due("of four by 4", s.keep(0, 4), 6);
        CHECKS.shows("the first", s, 0, Checks.row(128, 128, 127, 0, 0), Checks.row(127, 127, 127, 127, 127),
                Checks.row(0, 0, 127, 0, 0));
        CHECKS.due("one part is left", s.parts(0, 4), 1);
        CHECKS.due("kept already", s.keep(0, 4), 0);
        Checks.draw(s, 0, "#.##.##");
        CHECKS.due("of the second and the third", s.keep(0, 4), 3);
        CHECKS.shows("the second", s, 0, Checks.row(0, 127, 128, 128, 127, 0, 0));
        Checks.draw(s, 0, "#..", "#..", ".##");
        s.copy(0, 1);
        CHECKS.due("two by 4", s.keep(0, 4), 2);
        CHECKS.due("one by 8", s.keep(1, 8), 0);
        ParallaxSheets board = Checks.chessboard();
        CHECKS.due("of 128 by 4", board.keep(0, 4), 127);
        CHECKS.due("the first of 128", board.value(0, 0, 0), 128);
        CHECKS.due("of one by 8", Checks.chessboard().keep(0, 8), 0);
    }

    private static void keepTheLargestWherever() {
        CHECKS.sentence("Keeps only the PART with the most FIELDS");
        String[] rows = {"###.##.#", "##.###.#", "#.##.###"};
        int[] kept = {0, 3, 5};
        for (int i = 0; i < rows.length; i++) {
            ParallaxSheets s = Checks.drawn(rows[i]);
            CHECKS.due("changed in " + rows[i], s.keep(0, 4), 3);
            CHECKS.due("on in " + rows[i], s.count(0, 128, 128), 3);
            CHECKS.due("kept in " + rows[i], s.value(0, kept[i], 0), 128);
        }
    }

    private static void keepLeavesWhatIsNotOn() {
        CHECKS.sentence("all other FIELDS that are ON become 0");
        ParallaxSheets s = Checks.drawn(Checks.row(255, 200, 127, 128, 0, 1, 129, 126, 255));
        CHECKS.due("changed", s.keep(0, 8), 3);
        CHECKS.shows("what is not on stays, and what is kept", s, 0, Checks.row(255, 200, 127, 0, 0, 1, 0, 126, 0));
    }

    private static void farByEachWay() {
        CHECKS.sentence("by a way: 0 |dx| + |dy|, 1 the greater of |dx| and |dy|, 2 dx * dx + dy * dy");
        int[][] offAtAndWant = {{0, 0, 15, 15, 30, 15, 450}, {15, 15, 0, 0, 30, 15, 450}, {15, 0, 0, 15, 30, 15, 450},
            {0, 0, 3, 4, 7, 4, 25}, {7, 7, 4, 3, 7, 4, 25}, {7, 7, 11, 4, 7, 4, 25}, {0, 5, 15, 5, 15, 15, 225},
            {5, 15, 5, 0, 15, 15, 225}, {3, 3, 4, 4, 2, 1, 2}, {3, 3, 3, 4, 1, 1, 1}};
        for (int[] o : offAtAndWant) {
            ParallaxSheets s = Checks.even(16, 16, 128);
            s.dot(0, o[0], o[1], 127);
            for (int way = 0; way <= 2; way++) {
                CHECKS.due("from " + o[0] + ", " + o[1] + " to " + o[2] + ", " + o[3] + " by " + way,
                        s.far(0, way, o[2], o[3]), o[4 + way]);
            }
        }
        CHECKS.sentence("the least, over all FIELDS that are not ON");
        ParallaxSheets s = Checks.even(8, 8, 255);
        s.dot(0, 5, 0, 0);
        s.dot(0, 2, 2, 0);
        CHECKS.due("5 straight up", s.far(0, 0, 5, 5), 5);
        CHECKS.due("3 and 3 aslant", s.far(0, 1, 5, 5), 3);
        CHECKS.due("18 aslant, not 25", s.far(0, 2, 5, 5), 18);
    }

    private static void farWithoutFieldsThatAreNotOn() {
        CHECKS.sentence("without such ones, as if all BESIDE the SHEET (the nearest places outside of it) were not ON");
        int[][] sidesAtAndWant = {{1, 1, 0, 0, 1}, {16, 1, 7, 0, 1}, {1, 16, 0, 8, 1}, {2, 2, 1, 1, 1},
            {16, 16, 0, 0, 1}, {16, 16, 15, 0, 1}, {16, 16, 0, 15, 1}, {16, 16, 15, 15, 1}, {16, 16, 1, 14, 2},
            {16, 16, 7, 7, 8}, {16, 16, 8, 8, 8}, {16, 16, 7, 8, 8}, {16, 16, 8, 7, 8}, {16, 16, 6, 9, 7},
            {16, 3, 8, 1, 2}, {3, 16, 1, 8, 2}, {16, 16, 2, 8, 3}, {16, 16, 8, 2, 3}, {16, 16, 13, 8, 3},
            {16, 16, 8, 13, 3}};
        for (int[] o : sidesAtAndWant) {
            ParallaxSheets s = Checks.even(o[0], o[1], 128);
            String what = "at " + o[2] + ", " + o[3] + " of " + o[0] + " times " + o[1];
            CHECKS.due(what + " by 0", s.far(0, 0, o[2], o[3]), o[4]);
            CHECKS.due(what + " by 1", s.far(0, 1, o[2], o[3]), o[4]);
            CHECKS.due(what + " by 2", s.far(0, 2, o[2], o[3]), o[4] * o[4]);
        }
    }

    private static void farCountsNothingBesideOtherwise() {
        CHECKS.sentence("without such ones: with one that is not ON, what is BESIDE the SHEET does not count");
        ParallaxSheets s = Checks.even(16, 1, 128);
        s.dot(0, 15, 0, 127);
        CHECKS.due("in a row", s.far(0, 0, 0, 0), 15);
        s.dot(0, 15, 0, 128);
        CHECKS.due("in a row that is all on", s.far(0, 0, 0, 0), 1);
        s.fresh(0, 1, 16, 128);
        s.dot(0, 0, 15, 127);
        CHECKS.due("in a column", s.far(0, 2, 0, 0), 225);
        s.fresh(0, 2, 5, 128);
        s.dot(0, 1, 4, 127);
        CHECKS.due("in two columns", s.far(0, 2, 0, 0), 17);
        ParallaxSheets two = Checks.drawn("#.");
        CHECKS.due("in two fields", two.far(0, 2, 0, 0), 1);
    }

    private static void farOfWhatIsNotOn() {
        CHECKS.sentence("A FIELD that is not ON: 0.");
        for (int way = 0; way <= 2; way++) {
            for (int[] side : SIDES) {
                ParallaxSheets s = Checks.even(side[0], side[1], 127);
                CHECKS.due(sized("the first, none on", side), s.far(0, way, 0, 0), 0);
                CHECKS.due(sized("the last, none on", side), s.far(0, way, side[0] - 1, side[1] - 1), 0);
            }
            CHECKS.due("beside one that is on", Checks.drawn("#.").far(0, way, 1, 0), 0);
        }
    }

    private static void spreadIs255AtMost() {
        CHECKS.sentence("Makes each VALUE how FAR its FIELD is, times 10, 255 at most.");
        ParallaxSheets s = Checks.drawn(".######", "#######");
        CHECKS.due("the greatest", s.spread(0, 2), 37);
        CHECKS.shows("25 is 250, 26 is 255", s, 0, Checks.row(0, 10, 40, 90, 160, 250, 255),
                Checks.row(10, 20, 50, 100, 170, 255, 255));
        ParallaxSheets sums = Checks.even(16, 16, 255);
        sums.dot(0, 0, 0, 0);
        CHECKS.due("the greatest sum", sums.spread(0, 0), 30);
        CHECKS.due("24", sums.value(0, 12, 12), 240);
        CHECKS.due("25", sums.value(0, 12, 13), 250);
        CHECKS.due("26", sums.value(0, 13, 13), 255);
        CHECKS.due("30", sums.value(0, 15, 15), 255);
    }

    private static void spreadOfNoneAndOfAll() {
        CHECKS.sentence("how FAR its FIELD is: none ON, and every one");
        for (int way = 0; way <= 2; way++) {
            for (int[] side : SIDES) {
                ParallaxSheets s = Checks.even(side[0], side[1], 127);
                CHECKS.due(sized("none on", side), s.spread(0, way), 0);
                CHECKS.isAll(sized("none on", side), s, 0, side[0], side[1], 0);
            }
            ParallaxSheets s = Checks.even(1, 1, 128);
            CHECKS.due("one field", s.spread(0, way), 1);
            CHECKS.isAll("one field", s, 0, 1, 1, 10);
            s.fresh(0, 16, 1, 128);
            CHECKS.due("one row", s.spread(0, way), 1);
            CHECKS.isAll("one row", s, 0, 16, 1, 10);
            s.fresh(0, 16, 16, 128);
            CHECKS.due("the largest", s.spread(0, way), way == 2 ? 64 : 8);
            CHECKS.due("the largest, in the middle", s.value(0, 8, 7), way == 2 ? 255 : 80);
            CHECKS.due("the largest, at a corner", s.value(0, 15, 15), 10);
        }
    }

    private static void spreadAnswersTheGreatest() {
        CHECKS.sentence("Returns the greatest FAR (without the times 10).");
        ParallaxSheets s = Checks.even(16, 16, 200);
        s.dot(0, 15, 15, 0);
        for (int sheet = 1; sheet <= 2; sheet++) {
            s.copy(0, sheet);
        }
        int[] want = {30, 15, 450};
        for (int way = 0; way <= 2; way++) {
            CHECKS.due("by " + way, s.spread(way, way), want[way]);
            CHECKS.due("by " + way + ", the first", s.value(way, 0, 0), Math.min(255, want[way] * 10));
            CHECKS.due("by " + way + ", the last", s.value(way, 15, 15), 0);
        }
    }

    private static void wayIs0To2() {
        CHECKS.sentence("Throws IllegalArgumentException if way is not 0 to 2");
        ParallaxSheets s = Checks.drawn("##.#");
        for (int way : new int[] {-1, 3, Integer.MIN_VALUE, Integer.MAX_VALUE}) {
            CHECKS.refuses("far", s, Checks.NO_ARGUMENT, () -> s.far(0, way, 0, 0));
            CHECKS.refuses("far at x 4", s, Checks.NO_PLACE, () -> s.far(0, way, 4, 0));
            CHECKS.refuses("far at y 1", s, Checks.NO_PLACE, () -> s.far(0, way, 0, 1));
            CHECKS.refuses("spread", s, Checks.NO_ARGUMENT, () -> s.spread(0, way));
            CHECKS.refuses("spread of sheet 4", s, Checks.NO_PLACE, () -> s.spread(4, way));
        }
    }
}
