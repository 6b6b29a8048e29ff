/**
 * A workshop for pictures, in whole numbers.
 *
 * <p>The words in capitals (SHEET, FIELD, NINE, CUT, PART, ..) are those of the document's Terms.
 */
public final class ParallaxSheets {
    private static final int SHEETS = 4;
    private static final int FIRST_SIDE = 8;
    private static final int MOST_SIDE = 16;
    private static final int MOST_FIELDS = MOST_SIDE * MOST_SIDE;
    private static final int MOST_VALUE = 255;
    private static final int TONES = MOST_VALUE + 1;
    private static final int NINE = 9;
    private static final int MOST_WEIGHT = 9;
    private static final int MOST_DIVISOR = 99;
    private static final int MOST_RADIUS = 20;
    private static final int MOST_SLOPE = 50;
    private static final int WHOLE_SHARE = 100;
    private static final int ON_FROM = 128;
    private static final int OVER_SIDES = 4;
    private static final int OVER_CORNERS = 8;
    private static final long DIGEST_START = 58080L;
    private static final long DIGEST_FACTOR = 31L;

    private final Sheet[] sheets;
    /** What a SHEET is about to become; kept, so that no call makes arrays of its own. */
    private final Sheet next;
    private final Filters filters;
    private final Tones tones;
    private final Parts parts;
    private final Seams seams;

    public ParallaxSheets() {
        sheets = new Sheet[SHEETS];
        for (int i = 0; i < SHEETS; i++) {
            sheets[i] = new Sheet();
        }
        next = new Sheet();
        filters = new Filters();
        tones = new Tones();
        parts = new Parts();
        seams = new Seams();
    }

    // ---- drawing

    public int fresh(int sheet, int w, int h, int value)
            throws IndexOutOfBoundsException, IllegalArgumentException {
        Sheet it = sheetAt(sheet);
        refuseUnless(isFrom(1, w, MOST_SIDE) && isFrom(1, h, MOST_SIDE) && isValue(value));
        it.measure(w, h);
        for (int i = 0; i < it.size(); i++) {
            it.values[i] = value;
        }
        return it.size();
    }

    public int dot(int sheet, int x, int y, int value)
            throws IndexOutOfBoundsException, IllegalArgumentException {
        Sheet it = sheetAt(sheet);
        needField(it, x, y);
        refuseUnless(isValue(value));
        int before = it.near(x, y);
        it.put(x, y, value);
        return before;
    }

    public int box(int sheet, int x, int y, int toX, int toY, int value)
            throws IndexOutOfBoundsException, IllegalArgumentException {
        Sheet it = sheetAt(sheet);
        needField(it, x, y);
        needField(it, toX, toY);
        refuseUnless(isValue(value));
        next.become(it);
        for (int row = Math.min(y, toY); row <= Math.max(y, toY); row++) {
            for (int column = Math.min(x, toX); column <= Math.max(x, toX); column++) {
                next.put(column, row, value);
            }
        }
        return changeToNext(it);
    }

    public int disc(int sheet, int x, int y, int radius, int value)
            throws IndexOutOfBoundsException, IllegalArgumentException {
        Sheet it = sheetAt(sheet);
        needField(it, x, y);
        refuseUnless(isFrom(0, radius, MOST_RADIUS) && isValue(value));
        next.become(it);
        for (int row = 0; row < it.height; row++) {
            for (int column = 0; column < it.width; column++) {
                int dx = column - x;
                int dy = row - y;
                if (dx * dx + dy * dy <= radius * radius) {
                    next.put(column, row, value);
                }
            }
        }
        return changeToNext(it);
    }

    public int shade(int sheet, int across, int along, int rough)
            throws IndexOutOfBoundsException, IllegalArgumentException {
        Sheet it = sheetAt(sheet);
        refuseUnless(isSlope(across) && isSlope(along) && isSlope(rough));
        for (int y = 0; y < it.height; y++) {
            for (int x = 0; x < it.width; x++) {
                int added = across * x + along * y + (x * 5 + y * 11 + x * y * 3) % 13 * rough;
                it.put(x, y, it.near(x, y) + added);
            }
        }
        return it.total();
    }

    public int copy(int from, int to) throws IndexOutOfBoundsException {
        Sheet source = sheetAt(from);
        Sheet target = sheetAt(to);
        int changed = target.isAsLargeAs(source) ? target.differing(source) : -1;
        target.become(source);
        return changed;
    }

    public int mix(int to, int from, int share)
            throws IndexOutOfBoundsException, IllegalArgumentException, IllegalStateException {
        Sheet it = sheetAt(to);
        Sheet other = sheetAt(from);
        refuseUnless(isFrom(0, share, WHOLE_SHARE));
        needState(it.isAsLargeAs(other));
        next.become(it);
        for (int i = 0; i < it.size(); i++) {
            next.values[i] = (it.values[i] * (WHOLE_SHARE - share) + other.values[i] * share) / WHOLE_SHARE;
        }
        return changeToNext(it);
    }

    public int turn(int sheet, int how)
            throws IndexOutOfBoundsException, IllegalArgumentException, IllegalStateException {
        Sheet it = sheetAt(sheet);
        refuseUnless(isFrom(0, how, 3));
        int w = turnedSide(it.width, it.height, how);
        int h = turnedSide(it.height, it.width, how);
        needState(w <= MOST_SIDE && h <= MOST_SIDE);
        next.measure(w, h);
        for (int y = 0; y < h; y++) {
            for (int x = 0; x < w; x++) {
                next.put(x, y, turnedValue(it, how, x, y));
            }
        }
        it.become(next);
        return it.size();
    }

    // ---- filters and values

    public int kernel(int place, int weight) throws IndexOutOfBoundsException, IllegalArgumentException {
        needPlace(isFrom(0, place, NINE - 1));
        refuseUnless(isFrom(-MOST_WEIGHT, weight, MOST_WEIGHT));
        int before = filters.weights[place];
        filters.weights[place] = weight;
        return before;
    }

    public int divide(int divisor, int base) throws IllegalArgumentException {
        refuseUnless(isFrom(1, divisor, MOST_DIVISOR) && isValue(base));
        int before = filters.divisor;
        filters.divisor = divisor;
        filters.base = base;
        return before;
    }

    public int filter(int sheet, int how) throws IndexOutOfBoundsException, IllegalArgumentException {
        Sheet it = sheetAt(sheet);
        refuseUnless(isFrom(0, how, Filters.CLOSING));
        filters.run(it, next, how);
        return changeToNext(it);
    }

    public int values(int sheet, int how) throws IndexOutOfBoundsException, IllegalArgumentException {
        Sheet it = sheetAt(sheet);
        refuseUnless(isFrom(0, how, 3));
        tones.read(it);
        tones.plan(how);
        next.become(it);
        for (int i = 0; i < it.size(); i++) {
            next.values[i] = tones.planned(it.values[i]);
        }
        return changeToNext(it);
    }

    public int value(int sheet, int x, int y) throws IndexOutOfBoundsException {
        Sheet it = sheetAt(sheet);
        needField(it, x, y);
        return it.near(x, y);
    }

    public int sheet(int sheet, int what) throws IndexOutOfBoundsException, IllegalArgumentException {
        Sheet it = sheetAt(sheet);
        refuseUnless(isFrom(0, what, 5));
        return factOf(it, what);
    }

    public int count(int sheet, int low, int high) throws IndexOutOfBoundsException {
        Sheet it = sheetAt(sheet);
        int found = 0;
        for (int i = 0; i < it.size(); i++) {
            if (isFrom(low, it.values[i], high)) {
                found++;
            }
        }
        return found;
    }

    public int ordered(int sheet, int k) throws IndexOutOfBoundsException {
        Sheet it = sheetAt(sheet);
        needPlace(isFrom(0, k, it.size() - 1));
        tones.read(it);
        return tones.inOrder(k);
    }

    public double difference(int one, int other) throws IndexOutOfBoundsException, IllegalStateException {
        Sheet first = sheetAt(one);
        Sheet second = sheetAt(other);
        needState(first.isAsLargeAs(second));
        int sum = 0;
        for (int i = 0; i < first.size(); i++) {
            sum += Math.abs(first.values[i] - second.values[i]);
        }
        return (double) sum / (double) first.size();
    }

    // ---- parts and distances

    public int parts(int sheet, int ways) throws IndexOutOfBoundsException, IllegalArgumentException {
        Sheet it = sheetAt(sheet);
        refuseUnless(isWays(ways));
        return partsFrom(it, ways, ON_FROM);
    }

    public int holes(int sheet, int ways) throws IndexOutOfBoundsException, IllegalArgumentException {
        Sheet it = sheetAt(sheet);
        refuseUnless(isWays(ways));
        return holesOf(it, ways);
    }

    public int partOf(int sheet, int ways, int x, int y)
            throws IndexOutOfBoundsException, IllegalArgumentException {
        Sheet it = sheetAt(sheet);
        needField(it, x, y);
        refuseUnless(isWays(ways));
        parts.find(it, ways, ON_FROM, true);
        return parts.numberAt(x, y);
    }

    public int part(int sheet, int ways, int part, int what)
            throws IndexOutOfBoundsException, IllegalArgumentException {
        Sheet it = sheetAt(sheet);
        refuseUnless(isWays(ways) && isFrom(0, what, 5));
        parts.find(it, ways, ON_FROM, true);
        refuseUnless(isFrom(0, part, parts.found - 1));
        return parts.factOf(part, what);
    }

    public int keep(int sheet, int ways) throws IndexOutOfBoundsException, IllegalArgumentException {
        Sheet it = sheetAt(sheet);
        refuseUnless(isWays(ways));
        parts.find(it, ways, ON_FROM, true);
        int kept = parts.largest();
        next.become(it);
        for (int i = 0; i < it.size(); i++) {
            if (it.values[i] >= ON_FROM && parts.numbers[i] != kept) {
                next.values[i] = 0;
            }
        }
        return changeToNext(it);
    }

    public int far(int sheet, int way, int x, int y)
            throws IndexOutOfBoundsException, IllegalArgumentException {
        Sheet it = sheetAt(sheet);
        needField(it, x, y);
        refuseUnless(isFrom(0, way, 2));
        return farOf(it, way, x, y);
    }

    public int spread(int sheet, int way) throws IndexOutOfBoundsException, IllegalArgumentException {
        Sheet it = sheetAt(sheet);
        refuseUnless(isFrom(0, way, 2));
        next.measure(it.width, it.height);
        int greatest = 0;
        for (int y = 0; y < it.height; y++) {
            for (int x = 0; x < it.width; x++) {
                int distance = farOf(it, way, x, y);
                greatest = Math.max(greatest, distance);
                next.put(x, y, distance * 10);
            }
        }
        it.become(next);
        return greatest;
    }

    // ---- seams, and what would be (by the last three nothing is changed)

    public int carve(int sheet) throws IndexOutOfBoundsException, IllegalStateException {
        Sheet it = sheetAt(sheet);
        needState(it.width > 1);
        seams.find(it);
        seams.takeOut(it);
        return seams.total;
    }

    public int widen(int sheet) throws IndexOutOfBoundsException, IllegalStateException {
        Sheet it = sheetAt(sheet);
        needState(it.width < MOST_SIDE);
        seams.find(it);
        seams.putIn(it);
        return seams.total;
    }

    public int seam(int sheet, int y) throws IndexOutOfBoundsException {
        Sheet it = sheetAt(sheet);
        needPlace(isFrom(0, y, it.height - 1));
        seams.find(it);
        return seams.columns[y];
    }

    public int partsAt(int sheet, int ways, int t) throws IndexOutOfBoundsException, IllegalArgumentException {
        Sheet it = sheetAt(sheet);
        refuseUnless(isWays(ways) && isValue(t));
        return partsFrom(it, ways, t);
    }

    public int carvedBy(int sheet, int seams) throws IndexOutOfBoundsException, IllegalArgumentException {
        Sheet it = sheetAt(sheet);
        refuseUnless(isFrom(0, seams, it.width - 1));
        return costOfCarving(it, seams);
    }

    public long digest() {
        long d = DIGEST_START;
        for (int i = 0; i < SHEETS; i++) {
            Sheet it = sheets[i];
            d = digestFacts(d, it);
            d = digestSeams(d, it);
            d = digestFields(d, it);
        }
        return d;
    }

    // ---- what the calls have in common

    private Sheet sheetAt(int number) {
        if (number < 0 || number >= SHEETS) {
            throw new IndexOutOfBoundsException("there is no such sheet");
        }
        return sheets[number];
    }

    private static void needField(Sheet it, int x, int y) {
        needPlace(isFrom(0, x, it.width - 1) && isFrom(0, y, it.height - 1));
    }

    private static void needPlace(boolean isThere) {
        if (!isThere) {
            throw new IndexOutOfBoundsException("there is no such place");
        }
    }

    private static void refuseUnless(boolean fits) {
        if (!fits) {
            throw new IllegalArgumentException("an argument is not one of those allowed");
        }
    }

    private static void needState(boolean fits) {
        if (!fits) {
            throw new IllegalStateException("the width or the height does not allow that");
        }
    }

    private static boolean isFrom(int low, int number, int high) {
        return low <= number && number <= high;
    }

    private static boolean isValue(int number) {
        return isFrom(0, number, MOST_VALUE);
    }

    private static boolean isSlope(int number) {
        return isFrom(-MOST_SLOPE, number, MOST_SLOPE);
    }

    private static boolean isWays(int number) {
        return number == OVER_SIDES || number == OVER_CORNERS;
    }

    /** Makes a SHEET as next is, which has the same W and H, and tells how many FIELDS changed. */
    private int changeToNext(Sheet it) {
        int changed = it.differing(next);
        it.become(next);
        return changed;
    }

    private static int turnedSide(int side, int otherSide, int how) {
        switch (how) {
            case 0:
                return otherSide;
            case 2:
                return Math.max(1, side / 2);
            case 3:
                return side * 2;
            default:
                return side;
        }
    }

    private static int turnedValue(Sheet it, int how, int x, int y) {
        switch (how) {
            case 0:
                return it.near(y, it.height - 1 - x);
            case 1:
                return it.near(it.width - 1 - x, y);
            case 2:
                return (it.near(2 * x, 2 * y) + it.near(2 * x + 1, 2 * y)
                        + it.near(2 * x, 2 * y + 1) + it.near(2 * x + 1, 2 * y + 1)) / 4;
            default:
                return it.near(x / 2, y / 2);
        }
    }

    private int factOf(Sheet it, int what) {
        tones.read(it);
        switch (what) {
            case 0:
                return it.width;
            case 1:
                return it.height;
            case 2:
                return tones.least();
            case 3:
                return tones.greatest();
            case 4:
                return it.total();
            default:
                return tones.cut();
        }
    }

    private int partsFrom(Sheet it, int ways, int threshold) {
        parts.find(it, ways, threshold, true);
        return parts.found;
    }

    private int holesOf(Sheet it, int ways) {
        int otherWays = ways == OVER_SIDES ? OVER_CORNERS : OVER_SIDES;
        parts.find(it, otherWays, ON_FROM, false);
        return parts.awayFromEdges();
    }

    private static int farOf(Sheet it, int way, int x, int y) {
        if (it.near(x, y) < ON_FROM) {
            return 0;
        }
        int within = farWithin(it, way, x, y);
        return within > 0 ? within : farToOutside(it, way, x, y);
    }

    /** The least distance of a FIELD that is ON to one that is not; 0 if there is none. */
    private static int farWithin(Sheet it, int way, int x, int y) {
        int least = 0;
        for (int row = 0; row < it.height; row++) {
            for (int column = 0; column < it.width; column++) {
                if (it.near(column, row) < ON_FROM) {
                    int distance = distance(way, column - x, row - y);
                    least = least == 0 ? distance : Math.min(least, distance);
                }
            }
        }
        return least;
    }

    /** The nearest place outside of the SHEET lies straight across one of its edges. */
    private static int farToOutside(Sheet it, int way, int x, int y) {
        int across = Math.min(x + 1, it.width - x);
        int along = Math.min(y + 1, it.height - y);
        return distance(way, Math.min(across, along), 0);
    }

    private static int distance(int way, int dx, int dy) {
        switch (way) {
            case 0:
                return Math.abs(dx) + Math.abs(dy);
            case 1:
                return Math.max(Math.abs(dx), Math.abs(dy));
            default:
                return dx * dx + dy * dy;
        }
    }

    private int costOfCarving(Sheet it, int howMany) {
        next.become(it);
        int cost = 0;
        for (int i = 0; i < howMany; i++) {
            seams.find(next);
            seams.takeOut(next);
            cost += seams.total;
        }
        return cost;
    }

    private static long digestWith(long d, int number) {
        return d * DIGEST_FACTOR + number;
    }

    private long digestFacts(long before, Sheet it) {
        long d = before;
        for (int what = 0; what <= 5; what++) {
            d = digestWith(d, factOf(it, what));
        }
        d = digestWith(d, partsFrom(it, OVER_SIDES, ON_FROM));
        d = digestWith(d, holesOf(it, OVER_SIDES));
        d = digestWith(d, partsFrom(it, OVER_CORNERS, ON_FROM));
        return digestWith(d, holesOf(it, OVER_CORNERS));
    }

    private long digestSeams(long before, Sheet it) {
        long d = before;
        seams.find(it);
        for (int y = 0; y < it.height; y++) {
            d = digestWith(d, seams.columns[y]);
        }
        if (it.width > 1) {
            d = digestWith(d, costOfCarving(it, 1));
        }
        return d;
    }

    private static long digestFields(long before, Sheet it) {
        long d = before;
        for (int i = 0; i < Math.min(it.width, it.height); i++) {
            d = digestWith(d, farOf(it, 2, i, i));
        }
        for (int i = 0; i < it.size(); i++) {
            d = digestWith(d, it.values[i]);
        }
        return d;
    }

    /** One SHEET; its VALUES stand row by row at the front of an array that fits the largest. */
    private static final class Sheet {
        int width = FIRST_SIDE;
        int height = FIRST_SIDE;
        final int[] values = new int[MOST_FIELDS];

        int size() {
            return width * height;
        }

        /** Takes other sides; the caller then puts every VALUE. */
        void measure(int w, int h) {
            width = w;
            height = h;
        }

        /** The VALUE of the FIELD nearest to (x, y), which is what counts BESIDE the SHEET. */
        int near(int x, int y) {
            int column = Math.max(0, Math.min(x, width - 1));
            int row = Math.max(0, Math.min(y, height - 1));
            return values[row * width + column];
        }

        /** Gives a FIELD of the SHEET a VALUE, kept within 0 to 255. */
        void put(int x, int y, int value) {
            values[y * width + x] = Math.max(0, Math.min(value, MOST_VALUE));
        }

        int total() {
            int sum = 0;
            for (int i = 0; i < size(); i++) {
                sum += values[i];
            }
            return sum;
        }

        boolean isAsLargeAs(Sheet other) {
            return width == other.width && height == other.height;
        }

        /** How many FIELDS have another VALUE in a SHEET as large as this. */
        int differing(Sheet other) {
            int differ = 0;
            for (int i = 0; i < size(); i++) {
                if (values[i] != other.values[i]) {
                    differ++;
                }
            }
            return differ;
        }

        void become(Sheet other) {
            measure(other.width, other.height);
            System.arraycopy(other.values, 0, values, 0, size());
        }
    }

    /** The FILTERS, with the KERNEL, the DIVISOR and the BASE. */
    private static final class Filters {
        static final int WEIGHTS = 0;
        static final int MEDIAN = 1;
        static final int EDGES = 2;
        static final int LEAST = 3;
        static final int LEAST_OF_CROSS = 4;
        static final int GREATEST = 5;
        static final int GREATEST_OF_CROSS = 6;
        static final int OPENING = 7;
        static final int CLOSING = 8;

        final int[] weights = new int[NINE];
        int divisor = 9;
        int base = 0;
        private final int[] nine = new int[NINE];
        private final Sheet between = new Sheet();

        Filters() {
            for (int i = 0; i < NINE; i++) {
                weights[i] = 1;
            }
        }

        void run(Sheet from, Sheet to, int how) {
            if (how == OPENING) {
                pass(from, between, LEAST);
                pass(between, to, GREATEST);
            } else if (how == CLOSING) {
                pass(from, between, GREATEST);
                pass(between, to, LEAST);
            } else {
                pass(from, to, how);
            }
        }

        private void pass(Sheet from, Sheet to, int how) {
            to.measure(from.width, from.height);
            for (int y = 0; y < from.height; y++) {
                for (int x = 0; x < from.width; x++) {
                    gatherNine(from, x, y);
                    to.put(x, y, resultOfNine(how));
                }
            }
        }

        private void gatherNine(Sheet from, int x, int y) {
            for (int i = 0; i < NINE; i++) {
                nine[i] = from.near(x - 1 + i % 3, y - 1 + i / 3);
            }
        }

        private int resultOfNine(int how) {
            switch (how) {
                case WEIGHTS:
                    return weighted();
                case MEDIAN:
                    return middle();
                case EDGES:
                    return edge();
                case LEAST:
                    return least(false);
                case LEAST_OF_CROSS:
                    return least(true);
                case GREATEST:
                    return greatest(false);
                default:
                    return greatest(true);
            }
        }

        private int weighted() {
            int sum = 0;
            for (int i = 0; i < NINE; i++) {
                sum += weights[i] * nine[i];
            }
            return sum / divisor + base;
        }

        /** Sorts the NINE, which are gathered anew for the next FIELD. */
        private int middle() {
            for (int i = 1; i < NINE; i++) {
                int moving = nine[i];
                int place = i;
                while (place > 0 && nine[place - 1] > moving) {
                    nine[place] = nine[place - 1];
                    place--;
                }
                nine[place] = moving;
            }
            return nine[NINE / 2];
        }

        private int edge() {
            int across = nine[2] + 2 * nine[5] + nine[8] - nine[0] - 2 * nine[3] - nine[6];
            int along = nine[6] + 2 * nine[7] + nine[8] - nine[0] - 2 * nine[1] - nine[2];
            return (Math.abs(across) + Math.abs(along)) / 4;
        }

        private int least(boolean ofCross) {
            int least = nine[NINE / 2];
            for (int i = 0; i < NINE; i++) {
                if (!ofCross || isInCross(i)) {
                    least = Math.min(least, nine[i]);
                }
            }
            return least;
        }

        private int greatest(boolean ofCross) {
            int greatest = nine[NINE / 2];
            for (int i = 0; i < NINE; i++) {
                if (!ofCross || isInCross(i)) {
                    greatest = Math.max(greatest, nine[i]);
                }
            }
            return greatest;
        }

        private static boolean isInCross(int place) {
            return place == NINE / 2 || place % 2 == 1;
        }
    }

    /** How often each VALUE stands in the SHEET read last, and what is to become of each. */
    private static final class Tones {
        private final int[] counts = new int[TONES];
        private final int[] plans = new int[TONES];
        private int fields = 0;

        void read(Sheet it) {
            for (int i = 0; i < TONES; i++) {
                counts[i] = 0;
            }
            for (int i = 0; i < it.size(); i++) {
                counts[it.values[i]]++;
            }
            fields = it.size();
        }

        int planned(int value) {
            return plans[value];
        }

        void plan(int how) {
            switch (how) {
                case 0:
                    planNegative();
                    break;
                case 1:
                    planStretch();
                    break;
                case 2:
                    planEven();
                    break;
                default:
                    planCut();
                    break;
            }
        }

        private void planNegative() {
            for (int i = 0; i < TONES; i++) {
                plans[i] = MOST_VALUE - i;
            }
        }

        private void planStretch() {
            int a = least();
            int b = greatest();
            for (int i = 0; i < TONES; i++) {
                plans[i] = a < b ? (i - a) * MOST_VALUE / (b - a) : i;
            }
        }

        private void planEven() {
            int notAbove = 0;
            for (int i = 0; i < TONES; i++) {
                notAbove += counts[i];
                plans[i] = fields > 0 ? MOST_VALUE * notAbove / fields : i;
            }
        }

        private void planCut() {
            int cut = cut();
            for (int i = 0; i < TONES; i++) {
                plans[i] = i >= cut ? MOST_VALUE : 0;
            }
        }

        int least() {
            return inOrder(0);
        }

        int greatest() {
            return inOrder(fields - 1);
        }

        /** The VALUE number k of all in order, k from 0 to how many FIELDS there are, less 1. */
        int inOrder(int k) {
            int notAbove = 0;
            for (int i = 0; i < TONES; i++) {
                notAbove += counts[i];
                if (k < notAbove) {
                    return i;
                }
            }
            return MOST_VALUE;
        }

        int cut() {
            long all = 0;
            for (int i = 0; i < TONES; i++) {
                all += (long) i * counts[i];
            }
            long below = 0;
            long sumBelow = 0;
            long best = -1;
            int bestCut = 0;
            for (int t = 1; t < TONES; t++) {
                below += counts[t - 1];
                sumBelow += (long) (t - 1) * counts[t - 1];
                long rest = fields - below;
                if (below > 0 && rest > 0) {
                    long apart = sumBelow * rest - (all - sumBelow) * below;
                    long gain = apart * apart / (below * rest);
                    if (gain > best) {
                        best = gain;
                        bestCut = t;
                    }
                }
            }
            return bestCut;
        }
    }

    /** The PARTS of a SHEET, of FIELDS that are ON or of those that are not. */
    private static final class Parts {
        private static final int NONE = -1;

        int found = 0;
        /** For each FIELD the number of its PART, or NONE. */
        final int[] numbers = new int[MOST_FIELDS];
        /** The places, y * 16 + x, in the PART being found whose neighbours are still to be looked at. */
        private final int[] waiting = new int[MOST_FIELDS];
        private int waitingCount = 0;
        private final int[] sizes = new int[MOST_FIELDS];
        private final boolean[] atEdge = new boolean[MOST_FIELDS];
        private int width = 0;
        private int height = 0;

        void find(Sheet it, int ways, int threshold, boolean on) {
            width = it.width;
            height = it.height;
            found = 0;
            markMembers(it, threshold, on);
            for (int y = 0; y < height; y++) {
                for (int x = 0; x < width; x++) {
                    if (numberAt(x, y) == MOST_FIELDS) {
                        gather(x, y, ways);
                        found++;
                    }
                }
            }
        }

        /** A member without a PART yet bears a number that no PART can have. */
        private void markMembers(Sheet it, int threshold, boolean on) {
            for (int i = 0; i < width * height; i++) {
                boolean member = it.values[i] >= threshold == on;
                numbers[i] = member ? MOST_FIELDS : NONE;
            }
        }

        private void gather(int firstX, int firstY, int ways) {
            sizes[found] = 0;
            atEdge[found] = false;
            waitingCount = 0;
            join(firstX, firstY);
            // Each FIELD joins once, so no PART keeps this up longer than there are FIELDS.
            for (int turn = 0; turn < MOST_FIELDS && waitingCount > 0; turn++) {
                waitingCount--;
                int place = waiting[waitingCount];
                joinNeighbours(place % MOST_SIDE, place / MOST_SIDE, ways);
            }
        }

        private void join(int x, int y) {
            numbers[y * width + x] = found;
            sizes[found]++;
            if (x == 0 || y == 0 || x == width - 1 || y == height - 1) {
                atEdge[found] = true;
            }
            waiting[waitingCount] = y * MOST_SIDE + x;
            waitingCount++;
        }

        private void joinNeighbours(int x, int y, int ways) {
            for (int dy = -1; dy <= 1; dy++) {
                for (int dx = -1; dx <= 1; dx++) {
                    boolean reached = ways == OVER_CORNERS || dx == 0 || dy == 0;
                    if (reached && numberAt(x + dx, y + dy) == MOST_FIELDS) {
                        join(x + dx, y + dy);
                    }
                }
            }
        }

        /** The number of the PART at (x, y); NONE also outside of the SHEET. */
        int numberAt(int x, int y) {
            if (x < 0 || y < 0 || x >= width || y >= height) {
                return NONE;
            }
            return numbers[y * width + x];
        }

        /** The smallest number among the PARTS with the most FIELDS; NONE without PARTS. */
        int largest() {
            int best = NONE;
            int most = 0;
            for (int i = 0; i < found; i++) {
                if (sizes[i] > most) {
                    most = sizes[i];
                    best = i;
                }
            }
            return best;
        }

        int awayFromEdges() {
            int away = 0;
            for (int i = 0; i < found; i++) {
                if (!atEdge[i]) {
                    away++;
                }
            }
            return away;
        }

        int factOf(int part, int what) {
            if (what == 0) {
                return sizes[part];
            }
            if (what == 5) {
                return bareSides(part);
            }
            return bound(part, what);
        }

        /** What 1 and 2 are the smallest x and y, 3 and 4 the greatest. */
        private int bound(int part, int what) {
            boolean smallest = what <= 2;
            int bound = smallest ? MOST_SIDE : 0;
            for (int y = 0; y < height; y++) {
                for (int x = 0; x < width; x++) {
                    if (numberAt(x, y) == part) {
                        int along = what % 2 == 1 ? x : y;
                        bound = smallest ? Math.min(bound, along) : Math.max(bound, along);
                    }
                }
            }
            return bound;
        }

        private int bareSides(int part) {
            int sides = 0;
            for (int y = 0; y < height; y++) {
                for (int x = 0; x < width; x++) {
                    if (numberAt(x, y) == part) {
                        sides += bareSide(x - 1, y) + bareSide(x + 1, y)
                                + bareSide(x, y - 1) + bareSide(x, y + 1);
                    }
                }
            }
            return sides;
        }

        private int bareSide(int x, int y) {
            return numberAt(x, y) == NONE ? 1 : 0;
        }
    }

    /** The BEST SEAM of the SHEET looked at last. */
    private static final class Seams {
        int total = 0;
        /** The x of the SEAM in each row. */
        final int[] columns = new int[MOST_SIDE];
        /** For each FIELD the least sum of COSTS of a SEAM from row 0 down to it. */
        private final int[] sums = new int[MOST_FIELDS];
        private final Sheet result = new Sheet();

        void find(Sheet it) {
            for (int y = 0; y < it.height; y++) {
                for (int x = 0; x < it.width; x++) {
                    sums[y * it.width + x] = costOf(it, x, y) + leastAbove(it.width, x, y);
                }
            }
            int last = it.height - 1;
            columns[last] = bestColumn(it.width, last, 0, it.width - 1);
            total = sums[last * it.width + columns[last]];
            for (int y = last - 1; y >= 0; y--) {
                columns[y] = bestColumn(it.width, y, columns[y + 1] - 1, columns[y + 1] + 1);
            }
        }

        private int leastAbove(int width, int x, int y) {
            if (y == 0) {
                return 0;
            }
            return sums[(y - 1) * width + bestColumn(width, y - 1, x - 1, x + 1)];
        }

        private static int costOf(Sheet it, int x, int y) {
            return Math.abs(it.near(x + 1, y) - it.near(x - 1, y))
                    + Math.abs(it.near(x, y + 1) - it.near(x, y - 1));
        }

        /** The smallest x, from low to high, at which the sum of a row is least. */
        private int bestColumn(int width, int y, int low, int high) {
            int best = Math.max(0, low);
            for (int x = best + 1; x <= Math.min(high, width - 1); x++) {
                if (sums[y * width + x] < sums[y * width + best]) {
                    best = x;
                }
            }
            return best;
        }

        /** Takes the SEAM out of the SHEET in which it was found, whose W is above 1. */
        void takeOut(Sheet it) {
            result.measure(it.width - 1, it.height);
            for (int y = 0; y < result.height; y++) {
                for (int x = 0; x < result.width; x++) {
                    result.put(x, y, it.near(x < columns[y] ? x : x + 1, y));
                }
            }
            it.become(result);
        }

        /** Doubles the SEAM in the SHEET in which it was found, whose W is below 16. */
        void putIn(Sheet it) {
            result.measure(it.width + 1, it.height);
            for (int y = 0; y < result.height; y++) {
                int seam = columns[y];
                for (int x = 0; x < result.width; x++) {
                    result.put(x, y, it.near(x <= seam ? x : x - 1, y));
                }
                result.put(seam + 1, y, (it.near(seam, y) + it.near(seam + 1, y)) / 2);
            }
            it.become(result);
        }
    }
}
