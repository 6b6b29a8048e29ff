/** Counts what is as due and what is not; every test ends with close(). */
final class Checks {
    static final Class<IndexOutOfBoundsException> NO_PLACE = IndexOutOfBoundsException.class;
    static final Class<IllegalArgumentException> NO_ARGUMENT = IllegalArgumentException.class;
    static final Class<IllegalStateException> NO_STATE = IllegalStateException.class;

    private int right = 0;
    private int wrong = 0;
    private String sentence = "";

    /**
     * What is checked from here on holds to this sentence of the document, or to it in the case that is named
     * behind a colon; told with what is wrong.
     */
    void sentence(String words) {
        sentence = words;
    }

    void due(String what, long got, long want) {
        tell(got == want, what + " answered " + got + ", due is " + want);
    }

    void dueExactly(String what, double got, double want) {
        tell(got == want, what + " answered " + got + ", due is " + want);
    }

    /** The call throws exactly this, and the digest shows that no SHEET has changed. */
    void refuses(String what, ParallaxSheets on, Class<?> want, Runnable call) {
        long before = on.digest();
        Class<?> got = null;
        try {
            call.run();
        } catch (RuntimeException e) {
            got = e.getClass();
        }
        tell(got == want, what + " threw " + got + ", due is " + want);
        tell(on.digest() == before, what + " changed something");
    }

    /** The SHEET has just these rows. */
    void shows(String what, ParallaxSheets on, int sheet, int[]... rows) {
        int w = on.sheet(sheet, 0);
        int h = on.sheet(sheet, 1);
        due(what + ": W", w, rows[0].length);
        due(what + ": H", h, rows.length);
        for (int y = 0; y < Math.min(h, rows.length); y++) {
            for (int x = 0; x < Math.min(w, rows[y].length); x++) {
                due(what + ": value at " + x + ", " + y, on.value(sheet, x, y), rows[y][x]);
            }
        }
    }

    /** Every FIELD of the SHEET, of the size told, has this VALUE. */
    void isAll(String what, ParallaxSheets on, int sheet, int w, int h, int value) {
        due(what + ": W", on.sheet(sheet, 0), w);
        due(what + ": H", on.sheet(sheet, 1), h);
        due(what + ": how many have the value", on.count(sheet, value, value), w * h);
    }

    static int[] row(int... values) {
        return values;
    }

    static void draw(ParallaxSheets on, int sheet, int[]... rows) {
        on.fresh(sheet, rows[0].length, rows.length, 0);
        for (int y = 0; y < rows.length; y++) {
            for (int x = 0; x < rows[y].length; x++) {
                on.dot(sheet, x, y, rows[y][x]);
            }
        }
    }

    /** '#' is ON (128, just so), anything else is not (127, just so). */
    static void draw(ParallaxSheets on, int sheet, String... rows) {
        on.fresh(sheet, rows[0].length(), rows.length, 127);
        for (int y = 0; y < rows.length; y++) {
            for (int x = 0; x < rows[y].length(); x++) {
                if (rows[y].charAt(x) == '#') {
                    on.dot(sheet, x, y, 128);
                }
            }
        }
    }

    static ParallaxSheets drawn(int[]... rows) {
        ParallaxSheets made = new ParallaxSheets();
        draw(made, 0, rows);
        return made;
    }

    static ParallaxSheets drawn(String... rows) {
        ParallaxSheets made = new ParallaxSheets();
        draw(made, 0, rows);
        return made;
    }

    static ParallaxSheets even(int w, int h, int value) {
        ParallaxSheets made = new ParallaxSheets();
        made.fresh(0, w, h, value);
        return made;
    }

    /** 16 times 16, ON just where x + y is even. */
    static ParallaxSheets chessboard() {
        String[] rows = new String[16];
        for (int y = 0; y < rows.length; y++) {
            rows[y] = (y % 2 == 0 ? "#." : ".#").repeat(8);
        }
        return drawn(rows);
    }

    /** 16 times 16, with each VALUE once: x + 16 * y. */
    static ParallaxSheets eachValueOnce() {
        ParallaxSheets made = even(16, 16, 0);
        made.shade(0, 1, 16, 0);
        return made;
    }

    void tell(boolean isRight, String what) {
        if (isRight) {
            right++;
        } else {
            wrong++;
            if (wrong <= 20) {
                System.out.println("WRONG: " + what + (sentence.isEmpty() ? "" : " [" + sentence + "]"));
            }
        }
    }

    void close() {
        System.out.println(right + " right, " + wrong + " wrong");
        if (wrong != 0) {
            System.exit(1);
        }
    }
}
