/** The calls of the face by their names, for tests that go through many of them. */
final class Calls {
    private Calls() {
    }

    /** Makes one call and gives its answer. */
    static Object make(ParallaxSheets s, String name, int... a) {
        switch (name) {
            case "fresh": return s.fresh(a[0], a[1], a[2], a[3]);
            case "dot": return s.dot(a[0], a[1], a[2], a[3]);
            case "box": return s.box(a[0], a[1], a[2], a[3], a[4], a[5]);
            case "disc": return s.disc(a[0], a[1], a[2], a[3], a[4]);
            case "shade": return s.shade(a[0], a[1], a[2], a[3]);
            case "copy": return s.copy(a[0], a[1]);
            case "mix": return s.mix(a[0], a[1], a[2]);
            case "turn": return s.turn(a[0], a[1]);
            case "kernel": return s.kernel(a[0], a[1]);
            case "divide": return s.divide(a[0], a[1]);
            case "filter": return s.filter(a[0], a[1]);
            case "values": return s.values(a[0], a[1]);
            case "value": return s.value(a[0], a[1], a[2]);
            case "sheet": return s.sheet(a[0], a[1]);
            case "count": return s.count(a[0], a[1], a[2]);
            case "ordered": return s.ordered(a[0], a[1]);
            case "difference": return s.difference(a[0], a[1]);
            case "parts": return s.parts(a[0], a[1]);
            case "holes": return s.holes(a[0], a[1]);
            case "partOf": return s.partOf(a[0], a[1], a[2], a[3]);
            case "part": return s.part(a[0], a[1], a[2], a[3]);
            case "keep": return s.keep(a[0], a[1]);
            case "far": return s.far(a[0], a[1], a[2], a[3]);
            case "spread": return s.spread(a[0], a[1]);
            case "carve": return s.carve(a[0]);
            case "widen": return s.widen(a[0]);
            case "seam": return s.seam(a[0], a[1]);
            case "partsAt": return s.partsAt(a[0], a[1], a[2]);
            case "carvedBy": return s.carvedBy(a[0], a[1]);
            case "digest": return s.digest();
            default: throw new AssertionError("the face has no call " + name);
        }
    }
}
