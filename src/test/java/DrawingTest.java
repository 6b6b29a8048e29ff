/** Promises 1 to 9: a new object, and drawing. */
public final class DrawingTest {
    private static final Checks CHECKS = new Checks();

    public static void main(String[] args) {
        promise1NewObject();
        promise2Fresh();
        promise3Dot();
        promise4Box();
        promise5Disc();
        promise6Shade();
        promise7Copy();
        promise8Mix();
        promise9Turn();
        promise9TurnRefuses();
        CHECKS.close();
    }

    private static void promise1NewObject() {
        ParallaxSheets s = new ParallaxSheets();
        for (int i = 0; i < 4; i++) {
            CHECKS.due("new W", s.sheet(i, 0), 8);
            CHECKS.due("new H", s.sheet(i, 1), 8);
            CHECKS.due("new sum", s.sheet(i, 4), 0);
            CHECKS.due("new zeros", s.count(i, 0, 0), 64);
        }
        CHECKS.refuses("sheet 4", s, Checks.NO_PLACE, () -> s.sheet(4, 0));
        CHECKS.refuses("sheet -1", s, Checks.NO_PLACE, () -> s.sheet(-1, 0));
        for (int place = 0; place < 9; place++) {
            CHECKS.due("new weight", s.kernel(place, 1), 1);
        }
        s.fresh(0, 2, 2, 90);
        CHECKS.due("new kernel, divisor and base keep an even sheet", s.filter(0, 0), 0);
        CHECKS.due("new divisor", s.divide(9, 0), 9);
        new ParallaxSheets().fresh(1, 3, 3, 7);
        CHECKS.due("objects are apart", s.sheet(1, 0), 8);
    }

    private static void promise2Fresh() {
        ParallaxSheets s = new ParallaxSheets();
        CHECKS.due("smallest", s.fresh(0, 1, 1, 0), 1);
        CHECKS.shows("smallest", s, 0, Checks.row(0));
        CHECKS.due("largest", s.fresh(3, 16, 16, 255), 256);
        CHECKS.due("largest, all", s.count(3, 255, 255), 256);
        CHECKS.due("oblong", s.fresh(0, 3, 2, 7), 6);
        CHECKS.shows("oblong", s, 0, Checks.row(7, 7, 7), Checks.row(7, 7, 7));
        CHECKS.due("other sheets stay", s.sheet(1, 4), 0);
        CHECKS.refuses("no sheet, all wrong", s, Checks.NO_PLACE, () -> s.fresh(4, 0, 0, -1));
        CHECKS.refuses("no sheet -1", s, Checks.NO_PLACE, () -> s.fresh(-1, 1, 1, 1));
        CHECKS.refuses("w 0", s, Checks.NO_ARGUMENT, () -> s.fresh(0, 0, 1, 1));
        CHECKS.refuses("w 17", s, Checks.NO_ARGUMENT, () -> s.fresh(0, 17, 1, 1));
        CHECKS.refuses("h 0", s, Checks.NO_ARGUMENT, () -> s.fresh(0, 1, 0, 1));
        CHECKS.refuses("h 17", s, Checks.NO_ARGUMENT, () -> s.fresh(0, 1, 17, 1));
        CHECKS.refuses("value -1", s, Checks.NO_ARGUMENT, () -> s.fresh(0, 1, 1, -1));
        CHECKS.refuses("value 256", s, Checks.NO_ARGUMENT, () -> s.fresh(0, 1, 1, 256));
        CHECKS.refuses("far off", s, Checks.NO_ARGUMENT,
                () -> s.fresh(0, Integer.MIN_VALUE, Integer.MAX_VALUE, Integer.MIN_VALUE));
    }

    private static void promise3Dot() {
        ParallaxSheets s = new ParallaxSheets();
        s.fresh(1, 3, 2, 5);
        CHECKS.due("dot", s.dot(1, 2, 1, 255), 5);
        CHECKS.due("dot again", s.dot(1, 2, 1, 0), 255);
        CHECKS.due("dot elsewhere", s.dot(1, 1, 0, 9), 5);
        CHECKS.shows("dots", s, 1, Checks.row(5, 9, 5), Checks.row(5, 5, 0));
        CHECKS.refuses("no sheet", s, Checks.NO_PLACE, () -> s.dot(4, 0, 0, 256));
        CHECKS.refuses("x 3", s, Checks.NO_PLACE, () -> s.dot(1, 3, 0, 256));
        CHECKS.refuses("x -1", s, Checks.NO_PLACE, () -> s.dot(1, -1, 1, 1));
        CHECKS.refuses("y 2", s, Checks.NO_PLACE, () -> s.dot(1, 0, 2, 1));
        CHECKS.refuses("y -1", s, Checks.NO_PLACE, () -> s.dot(1, 0, -1, 1));
        CHECKS.refuses("value -1", s, Checks.NO_ARGUMENT, () -> s.dot(1, 0, 0, -1));
        CHECKS.refuses("value 256", s, Checks.NO_ARGUMENT, () -> s.dot(1, 0, 0, 256));
    }

    private static void promise4Box() {
        ParallaxSheets s = new ParallaxSheets();
        s.fresh(0, 4, 3, 1);
        CHECKS.due("box", s.box(0, 1, 0, 2, 1, 9), 4);
        CHECKS.due("box again", s.box(0, 2, 1, 1, 0, 9), 0);
        CHECKS.due("box over it, corners the other way", s.box(0, 3, 1, 2, 2, 9), 3);
        CHECKS.shows("boxes", s, 0, Checks.row(1, 9, 9, 1), Checks.row(1, 9, 9, 9), Checks.row(1, 1, 9, 9));
        CHECKS.due("mixed corners", s.box(0, 0, 2, 1, 0, 0), 6);
        CHECKS.due("one field", s.box(0, 3, 2, 3, 2, 255), 1);
        CHECKS.shows("boxes", s, 0, Checks.row(0, 0, 9, 1), Checks.row(0, 0, 9, 9), Checks.row(0, 0, 9, 255));
        CHECKS.refuses("no sheet", s, Checks.NO_PLACE, () -> s.box(-1, 0, 0, 0, 0, 1));
        CHECKS.refuses("x", s, Checks.NO_PLACE, () -> s.box(0, 4, 0, 0, 0, 256));
        CHECKS.refuses("y", s, Checks.NO_PLACE, () -> s.box(0, 0, 3, 0, 0, 1));
        CHECKS.refuses("toX", s, Checks.NO_PLACE, () -> s.box(0, 0, 0, 4, 0, 1));
        CHECKS.refuses("toX -1", s, Checks.NO_PLACE, () -> s.box(0, 0, 0, -1, 0, 1));
        CHECKS.refuses("toY", s, Checks.NO_PLACE, () -> s.box(0, 0, 0, 0, 3, -1));
        CHECKS.refuses("toY -1", s, Checks.NO_PLACE, () -> s.box(0, 0, 0, 0, -1, 1));
        CHECKS.refuses("value 256", s, Checks.NO_ARGUMENT, () -> s.box(0, 0, 0, 3, 2, 256));
        CHECKS.refuses("value -1", s, Checks.NO_ARGUMENT, () -> s.box(0, 0, 0, 3, 2, -1));
    }

    private static void promise5Disc() {
        ParallaxSheets s = new ParallaxSheets();
        s.fresh(0, 5, 4, 3);
        CHECKS.due("radius 0", s.disc(0, 4, 3, 0, 8), 1);
        CHECKS.due("radius 1 is a cross", s.disc(0, 1, 1, 1, 8), 5);
        CHECKS.due("radius 2, less what was so", s.disc(0, 1, 1, 2, 8), 6);
        CHECKS.shows("discs", s, 0, Checks.row(8, 8, 8, 3, 3), Checks.row(8, 8, 8, 8, 3),
                Checks.row(8, 8, 8, 3, 3), Checks.row(3, 8, 3, 3, 8));
        s.fresh(1, 16, 16, 0);
        CHECKS.due("radius 20 from a corner", s.disc(1, 0, 0, 20, 255), 253);
        CHECKS.due("15 * 15 + 13 * 13 = 394", s.value(1, 15, 13), 255);
        CHECKS.due("14 * 14 + 15 * 15 = 421", s.value(1, 14, 15), 0);
        CHECKS.refuses("no sheet", s, Checks.NO_PLACE, () -> s.disc(4, 0, 0, -1, 0));
        CHECKS.refuses("x", s, Checks.NO_PLACE, () -> s.disc(0, 5, 0, 21, 0));
        CHECKS.refuses("y", s, Checks.NO_PLACE, () -> s.disc(0, 0, 4, 1, 256));
        CHECKS.refuses("radius -1", s, Checks.NO_ARGUMENT, () -> s.disc(0, 0, 0, -1, 0));
        CHECKS.refuses("radius 21", s, Checks.NO_ARGUMENT, () -> s.disc(0, 0, 0, 21, 0));
        CHECKS.refuses("value 256", s, Checks.NO_ARGUMENT, () -> s.disc(0, 0, 0, 1, 256));
        CHECKS.refuses("value -1", s, Checks.NO_ARGUMENT, () -> s.disc(0, 0, 0, 1, -1));
    }

    private static void promise6Shade() {
        ParallaxSheets s = new ParallaxSheets();
        s.fresh(0, 3, 2, 100);
        CHECKS.due("shade", s.shade(0, 10, -5, 2), 711);
        CHECKS.shows("shade", s, 0, Checks.row(100, 120, 140), Checks.row(117, 117, 117));
        s.fresh(0, 3, 2, 240);
        CHECKS.due("kept at 255", s.shade(0, 50, 50, 0), 240 + 5 * 255);
        CHECKS.due("kept at 0", s.shade(0, -50, 0, -50), 240 + 105);
        CHECKS.shows("kept at 0", s, 0, Checks.row(240, 0, 0), Checks.row(0, 0, 105));
        s.fresh(0, 2, 2, 0);
        s.shade(0, 50, -50, 1);
        CHECKS.shows("kept within once, at the end", s, 0, Checks.row(0, 55), Checks.row(0, 6));
        CHECKS.refuses("no sheet", s, Checks.NO_PLACE, () -> s.shade(4, 51, 0, 0));
        CHECKS.refuses("across 51", s, Checks.NO_ARGUMENT, () -> s.shade(0, 51, 0, 0));
        CHECKS.refuses("across -51", s, Checks.NO_ARGUMENT, () -> s.shade(0, -51, 0, 0));
        CHECKS.refuses("along 51", s, Checks.NO_ARGUMENT, () -> s.shade(0, 0, 51, 0));
        CHECKS.refuses("along -51", s, Checks.NO_ARGUMENT, () -> s.shade(0, 0, -51, 0));
        CHECKS.refuses("rough 51", s, Checks.NO_ARGUMENT, () -> s.shade(0, 0, 0, 51));
        CHECKS.refuses("rough -51", s, Checks.NO_ARGUMENT, () -> s.shade(0, 0, 0, -51));
    }

    private static void promise7Copy() {
        ParallaxSheets s = new ParallaxSheets();
        Checks.draw(s, 0, Checks.row(1, 2, 3), Checks.row(4, 5, 6));
        CHECKS.due("another size", s.copy(0, 1), -1);
        CHECKS.shows("copied", s, 1, Checks.row(1, 2, 3), Checks.row(4, 5, 6));
        s.dot(1, 0, 0, 9);
        CHECKS.due("the first stays", s.value(0, 0, 0), 1);
        CHECKS.due("one differs", s.copy(1, 0), 1);
        CHECKS.due("none differs", s.copy(0, 1), 0);
        CHECKS.due("onto itself", s.copy(1, 1), 0);
        CHECKS.shows("copied back", s, 0, Checks.row(9, 2, 3), Checks.row(4, 5, 6));
        s.fresh(2, 2, 3, 0);
        CHECKS.due("turned size", s.copy(0, 2), -1);
        CHECKS.refuses("from", s, Checks.NO_PLACE, () -> s.copy(4, 0));
        CHECKS.refuses("to", s, Checks.NO_PLACE, () -> s.copy(0, -1));
    }

    private static void promise8Mix() {
        ParallaxSheets s = new ParallaxSheets();
        Checks.draw(s, 0, Checks.row(10, 7, 255, 40));
        Checks.draw(s, 1, Checks.row(20, 8, 255, 0));
        CHECKS.due("share 0", s.mix(0, 1, 0), 0);
        CHECKS.due("share 30", s.mix(0, 1, 30), 2);
        CHECKS.shows("share 30", s, 0, Checks.row(13, 7, 255, 28));
        CHECKS.shows("the other stays", s, 1, Checks.row(20, 8, 255, 0));
        CHECKS.due("share 100", s.mix(0, 1, 100), 3);
        CHECKS.shows("share 100", s, 0, Checks.row(20, 8, 255, 0));
        CHECKS.due("with itself", s.mix(0, 0, 33), 0);
        CHECKS.refuses("to", s, Checks.NO_PLACE, () -> s.mix(4, 0, 101));
        CHECKS.refuses("from", s, Checks.NO_PLACE, () -> s.mix(0, 4, 101));
        CHECKS.refuses("share 101 before size", s, Checks.NO_ARGUMENT, () -> s.mix(0, 2, 101));
        CHECKS.refuses("share -1", s, Checks.NO_ARGUMENT, () -> s.mix(0, 1, -1));
        s.fresh(2, 4, 2, 0);
        CHECKS.refuses("H differs", s, Checks.NO_STATE, () -> s.mix(0, 2, 50));
        s.fresh(2, 3, 1, 0);
        CHECKS.refuses("W differs", s, Checks.NO_STATE, () -> s.mix(0, 2, 50));
    }

    private static void promise9Turn() {
        ParallaxSheets s = new ParallaxSheets();
        Checks.draw(s, 0, Checks.row(1, 2, 3), Checks.row(4, 5, 6));
        CHECKS.due("quarter", s.turn(0, 0), 6);
        CHECKS.shows("quarter", s, 0, Checks.row(4, 1), Checks.row(5, 2), Checks.row(6, 3));
        CHECKS.due("mirrored", s.turn(0, 1), 6);
        CHECKS.shows("mirrored", s, 0, Checks.row(1, 4), Checks.row(2, 5), Checks.row(3, 6));
        CHECKS.due("half", s.turn(0, 2), 1);
        CHECKS.shows("half", s, 0, Checks.row(3));
        CHECKS.due("half of one", s.turn(0, 2), 1);
        CHECKS.shows("half of one", s, 0, Checks.row(3));
        Checks.draw(s, 0, Checks.row(10), Checks.row(21), Checks.row(30), Checks.row(5), Checks.row(99));
        CHECKS.due("half of a column, with beside", s.turn(0, 2), 2);
        CHECKS.shows("half of a column", s, 0, Checks.row(15), Checks.row(17));
        CHECKS.due("twice", s.turn(0, 3), 8);
        CHECKS.shows("twice", s, 0, Checks.row(15, 15), Checks.row(15, 15), Checks.row(17, 17), Checks.row(17, 17));
        Checks.draw(s, 0, Checks.row(1, 2, 3, 4, 50), Checks.row(5, 6, 7, 8, 50), Checks.row(9, 10, 11, 12, 50),
                Checks.row(13, 14, 15, 19, 50));
        CHECKS.due("half, without the odd column", s.turn(0, 2), 4);
        CHECKS.shows("half", s, 0, Checks.row(3, 5), Checks.row(11, 14));
        CHECKS.due("twice", s.turn(0, 3), 16);
        CHECKS.shows("twice", s, 0, Checks.row(3, 3, 5, 5), Checks.row(3, 3, 5, 5),
                Checks.row(11, 11, 14, 14), Checks.row(11, 11, 14, 14));
        s.fresh(1, 8, 8, 1);
        CHECKS.due("twice 8 is 16", s.turn(1, 3), 256);
    }

    private static void promise9TurnRefuses() {
        ParallaxSheets s = new ParallaxSheets();
        s.fresh(1, 9, 1, 1);
        CHECKS.refuses("W 18", s, Checks.NO_STATE, () -> s.turn(1, 3));
        s.fresh(2, 1, 9, 1);
        CHECKS.refuses("H 18", s, Checks.NO_STATE, () -> s.turn(2, 3));
        CHECKS.refuses("no sheet", s, Checks.NO_PLACE, () -> s.turn(4, 4));
        CHECKS.refuses("how 4", s, Checks.NO_ARGUMENT, () -> s.turn(1, 4));
        CHECKS.refuses("how -1", s, Checks.NO_ARGUMENT, () -> s.turn(1, -1));
        s.fresh(3, 16, 2, 1);
        CHECKS.due("a large one may be turned", s.turn(3, 0), 32);
        CHECKS.due("its W", s.sheet(3, 0), 2);
    }
}
