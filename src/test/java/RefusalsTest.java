import java.util.ArrayList;
import java.util.Arrays;
import java.util.List;

/**
 * For every call and every argument of it: the smallest and the largest that is allowed is taken, those just
 * outside are refused with the exception that the document names, of several with the one that is named first,
 * and an object on which a call was refused is as one on which it was never made.
 */
public final class RefusalsTest {
    private static final Checks CHECKS = new Checks();

    /** What an argument may be (from low to high, or low or high alone) and what is thrown if it is not that. */
    private static final class Limit {
        final Class<?> refusal;
        final int low;
        final int high;
        final int[] wrong;

        Limit(Class<?> refusal, int low, int high, int... wrong) {
            this.refusal = refusal;
            this.low = low;
            this.high = high;
            this.wrong = wrong;
        }
    }

    /** A call and the limits of its arguments; the lowest of each make a call that is allowed. */
    private static final class Limited {
        final String call;
        final Limit[] limits;

        Limited(String call, Limit... limits) {
            this.call = call;
            this.limits = limits;
        }

        int[] allowed() {
            return Arrays.stream(limits).mapToInt(limit -> limit.low).toArray();
        }
    }

    // The SHEETS of scene() have 5 times 4 FIELDS each, and SHEET 0 has 5 PARTS by 4.
    private static final Limit SHEET = place(0, 3);
    private static final Limit X = place(0, 4);
    private static final Limit Y = place(0, 3);
    private static final Limit SIDE = argument(1, 16);
    private static final Limit VALUE = argument(0, 255);
    private static final Limit SLOPE = argument(-50, 50);
    private static final Limit WAYS = new Limit(Checks.NO_ARGUMENT, 4, 8,
            5, 9, 3, 7, 6, 2, 1, 0, 12, -4, -8, Integer.MIN_VALUE, Integer.MAX_VALUE);
    private static final Limit ANY = new Limit(null, Integer.MIN_VALUE, Integer.MAX_VALUE);

    private static final Limited[] CALLS = {
        new Limited("fresh", SHEET, SIDE, SIDE, VALUE),
        new Limited("dot", SHEET, X, Y, VALUE),
        new Limited("box", SHEET, X, Y, X, Y, VALUE),
        new Limited("disc", SHEET, X, Y, argument(0, 20), VALUE),
        new Limited("shade", SHEET, SLOPE, SLOPE, SLOPE),
        new Limited("copy", SHEET, SHEET),
        new Limited("mix", SHEET, SHEET, argument(0, 100)),
        new Limited("turn", SHEET, argument(0, 3)),
        new Limited("kernel", place(0, 8), argument(-9, 9)),
        new Limited("divide", argument(1, 99), VALUE),
        new Limited("filter", SHEET, argument(0, 8)),
        new Limited("values", SHEET, argument(0, 3)),
        new Limited("value", SHEET, X, Y),
        new Limited("sheet", SHEET, argument(0, 5)),
        new Limited("count", SHEET, ANY, ANY),
        new Limited("ordered", SHEET, place(0, 19)),
        new Limited("difference", SHEET, SHEET),
        new Limited("parts", SHEET, WAYS),
        new Limited("holes", SHEET, WAYS),
        new Limited("partOf", SHEET, WAYS, X, Y),
        new Limited("part", SHEET, WAYS, argument(0, 4), argument(0, 5)),
        new Limited("keep", SHEET, WAYS),
        new Limited("far", SHEET, argument(0, 2), X, Y),
        new Limited("spread", SHEET, argument(0, 2)),
        new Limited("carve", SHEET),
        new Limited("widen", SHEET),
        new Limited("seam", SHEET, Y),
        new Limited("partsAt", SHEET, WAYS, VALUE),
        new Limited("carvedBy", SHEET, argument(0, 4))};

    public static void main(String[] args) {
        for (Limited limited : CALLS) {
            whatIsAllowedIsTaken(limited);
            whatIsJustOutsideIsRefused(limited);
            ofSeveralTheFirstNamedIsThrown(limited);
        }
        sidesThatDifferAreRefused();
        sheetsTooLargeToGrowAreRefused();
        sheetsTooNarrowOrTooWideForSeamsAreRefused();
        partsThatAreNotThereAreRefused();
        CHECKS.close();
    }

    private static Limit place(int low, int high) {
        return limit(Checks.NO_PLACE, low, high);
    }

    private static Limit argument(int low, int high) {
        return limit(Checks.NO_ARGUMENT, low, high);
    }

    private static Limit limit(Class<?> refusal, int low, int high) {
        return new Limit(refusal, low, high, low - 1, high + 1, Integer.MIN_VALUE, Integer.MAX_VALUE);
    }

    /** SHEETS that are of one size but not the same, and a KERNEL, a DIVISOR and a BASE of their own. */
    private static ParallaxSheets scene() {
        ParallaxSheets made = Checks.drawn("##.##", "#..#.", "....#", ".#.#.");
        for (int sheet = 1; sheet <= 3; sheet++) {
            made.copy(0, sheet);
            made.dot(sheet, 0, 0, 200 + sheet);
            made.dot(sheet, 4, 3, 10 * sheet);
        }
        tune(made);
        return made;
    }

    /** SHEETS of 16 times 2, 1 times 3, 9 times 1 and 1 times 9, so that each stands at some limit. */
    private static ParallaxSheets sceneOfLimits() {
        ParallaxSheets made = new ParallaxSheets();
        made.fresh(0, 16, 2, 130);
        made.fresh(1, 1, 3, 40);
        made.fresh(2, 9, 1, 50);
        made.fresh(3, 1, 9, 60);
        for (int sheet = 0; sheet <= 3; sheet++) {
            made.shade(sheet, 3, 5, 7);
        }
        tune(made);
        return made;
    }

    private static void tune(ParallaxSheets made) {
        for (int place = 0; place <= 8; place++) {
            made.kernel(place, place * 2 - 9);
        }
        made.divide(7, 20);
    }

    /** All that an object holds, as far as calls tell; it is used up then. */
    private static List<Integer> all(ParallaxSheets used) {
        List<Integer> all = new ArrayList<>();
        for (int sheet = 0; sheet <= 3; sheet++) {
            int w = used.sheet(sheet, 0);
            int h = used.sheet(sheet, 1);
            all.add(w);
            all.add(h);
            for (int i = 0; i < w * h; i++) {
                all.add(used.value(sheet, i % w, i / w));
            }
        }
        for (int place = 0; place <= 8; place++) {
            all.add(used.kernel(place, 0));
        }
        // With all weights 0 the BASE alone is left.
        used.filter(0, 0);
        all.add(used.value(0, 0, 0));
        all.add(used.divide(1, 0));
        return all;
    }

    private static Class<?> thrownBy(ParallaxSheets on, String call, int... a) {
        try {
            Calls.make(on, call, a);
            return null;
        } catch (RuntimeException e) {
            return e.getClass();
        }
    }

    private static void refused(ParallaxSheets on, List<Integer> before, Class<?> want, String call, int... a) {
        Class<?> got = thrownBy(on, call, a);
        String what = call + Arrays.toString(a);
        CHECKS.tell(got == want, what + " threw " + got + ", due is " + want);
        CHECKS.tell(all(on).equals(before), what + " was refused and changed something");
    }

    private static void refused(Class<?> want, String call, int... a) {
        refused(scene(), all(scene()), want, call, a);
    }

    private static void refusedAtLimits(Class<?> want, String call, int... a) {
        refused(sceneOfLimits(), all(sceneOfLimits()), want, call, a);
    }

    private static void takenAtLimits(String call, int... a) {
        CHECKS.tell(thrownBy(sceneOfLimits(), call, a) == null, call + Arrays.toString(a) + " is allowed, but threw");
    }

    private static void whatIsAllowedIsTaken(Limited limited) {
        CHECKS.sentence("");
        for (int k = 0; k < limited.limits.length; k++) {
            for (int allowed : new int[] {limited.limits[k].low, limited.limits[k].high}) {
                int[] a = limited.allowed();
                a[k] = allowed;
                CHECKS.tell(thrownBy(scene(), limited.call, a) == null,
                        limited.call + Arrays.toString(a) + " is allowed, but threw");
            }
        }
    }

    private static void whatIsJustOutsideIsRefused(Limited limited) {
        CHECKS.sentence("A method that throws an exception changes nothing.");
        for (int k = 0; k < limited.limits.length; k++) {
            for (int wrong : limited.limits[k].wrong) {
                int[] a = limited.allowed();
                a[k] = wrong;
                refused(limited.limits[k].refusal, limited.call, a);
            }
        }
    }

    /** Every choice of arguments that are wrong together; a place that is not there is always named first. */
    private static void ofSeveralTheFirstNamedIsThrown(Limited limited) {
        CHECKS.sentence("If several exceptions apply, the one that is named first is thrown.");
        for (int choice = 1; choice < 1 << limited.limits.length; choice++) {
            for (int side = 0; side < 2; side++) {
                int[] a = limited.allowed();
                Class<?> want = null;
                for (int k = 0; k < a.length; k++) {
                    Limit limit = limited.limits[k];
                    if ((choice >> k & 1) == 1 && limit.wrong.length > 0) {
                        a[k] = limit.wrong[side];
                        want = want == Checks.NO_PLACE ? want : limit.refusal;
                    }
                }
                if (want != null) {
                    refused(want, limited.call, a);
                }
            }
        }
    }

    private static void sidesThatDifferAreRefused() {
        CHECKS.sentence("Throws IllegalStateException if W or H is not the same");
        int[][] differing = {{0, 1}, {1, 0}, {1, 3}, {3, 1}, {2, 3}, {3, 2}, {0, 2}};
        for (int[] pair : differing) {
            refusedAtLimits(Checks.NO_STATE, "mix", pair[0], pair[1], 0);
            refusedAtLimits(Checks.NO_STATE, "mix", pair[0], pair[1], 100);
            refusedAtLimits(Checks.NO_STATE, "difference", pair[0], pair[1]);
            CHECKS.sentence("If several exceptions apply, the one that is named first is thrown.");
            refusedAtLimits(Checks.NO_ARGUMENT, "mix", pair[0], pair[1], 101);
            refusedAtLimits(Checks.NO_ARGUMENT, "mix", pair[0], pair[1], -1);
            refusedAtLimits(Checks.NO_PLACE, "mix", pair[0], 4, 101);
            refusedAtLimits(Checks.NO_PLACE, "mix", -1, pair[1], 101);
            refusedAtLimits(Checks.NO_PLACE, "difference", pair[0], 4);
        }
        takenAtLimits("mix", 1, 1, 50);
        takenAtLimits("difference", 3, 3);
    }

    private static void sheetsTooLargeToGrowAreRefused() {
        CHECKS.sentence("Throws IllegalStateException if W or H would be above 16");
        refusedAtLimits(Checks.NO_STATE, "turn", 0, 3);
        refusedAtLimits(Checks.NO_STATE, "turn", 2, 3);
        refusedAtLimits(Checks.NO_STATE, "turn", 3, 3);
        takenAtLimits("turn", 1, 3);
        for (int how = 0; how <= 2; how++) {
            takenAtLimits("turn", 0, how);
            takenAtLimits("turn", 2, how);
            takenAtLimits("turn", 3, how);
        }
        CHECKS.sentence("If several exceptions apply, the one that is named first is thrown.");
        refusedAtLimits(Checks.NO_ARGUMENT, "turn", 0, 4);
        refusedAtLimits(Checks.NO_ARGUMENT, "turn", 3, -1);
        refusedAtLimits(Checks.NO_PLACE, "turn", 4, 3);
        refusedAtLimits(Checks.NO_PLACE, "turn", -1, 4);
    }

    private static void sheetsTooNarrowOrTooWideForSeamsAreRefused() {
        CHECKS.sentence("carve throws IllegalStateException if W is 1");
        refusedAtLimits(Checks.NO_STATE, "carve", 1);
        refusedAtLimits(Checks.NO_STATE, "carve", 3);
        takenAtLimits("carve", 0);
        takenAtLimits("carve", 2);
        CHECKS.sentence("widen throws IllegalStateException if W is 16");
        refusedAtLimits(Checks.NO_STATE, "widen", 0);
        takenAtLimits("widen", 1);
        takenAtLimits("widen", 2);
        takenAtLimits("widen", 3);
        CHECKS.sentence("carvedBy throws IllegalArgumentException if seams is not 0 to W - 1");
        int[] sides = {16, 1, 9, 1};
        for (int sheet = 0; sheet <= 3; sheet++) {
            takenAtLimits("carvedBy", sheet, 0);
            takenAtLimits("carvedBy", sheet, sides[sheet] - 1);
            refusedAtLimits(Checks.NO_ARGUMENT, "carvedBy", sheet, sides[sheet]);
            refusedAtLimits(Checks.NO_ARGUMENT, "carvedBy", sheet, -1);
        }
    }

    private static void partsThatAreNotThereAreRefused() {
        CHECKS.sentence("Throws IllegalArgumentException if .. there is no such PART");
        // SHEET 1 has no FIELD that is ON; by 8 the SHEET of scene() has 3 PARTS.
        for (int part = -1; part <= 1; part++) {
            refusedAtLimits(Checks.NO_ARGUMENT, "part", 1, 4, part, 0);
            refusedAtLimits(Checks.NO_ARGUMENT, "part", 1, 8, part, 0);
        }
        CHECKS.tell(thrownBy(scene(), "part", 0, 8, 2, 0) == null, "part 2 by 8 is there, but was refused");
        refused(Checks.NO_ARGUMENT, "part", 0, 8, 3, 0);
        refused(Checks.NO_ARGUMENT, "part", 0, 8, -1, 0);
    }
}
