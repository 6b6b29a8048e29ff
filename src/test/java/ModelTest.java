import java.util.Arrays;
import java.util.Random;

/** Long runs of calls, the same each time, whose answers the Model has to give too. */
public final class ModelTest {
    /** The name of each call, and what its arguments are (see argument()). */
    private static final String[][] CALLS = {
        {"fresh", "s", "W", "W", "v"}, {"dot", "s", "x", "y", "v"}, {"box", "s", "x", "y", "x", "y", "v"},
        {"disc", "s", "x", "y", "r", "v"}, {"shade", "s", "l", "l", "l"}, {"copy", "s", "s"},
        {"mix", "s", "s", "p"}, {"turn", "s", "3"}, {"kernel", "8", "k"}, {"divide", "d", "v"},
        {"filter", "s", "8"}, {"values", "s", "3"}, {"value", "s", "x", "y"}, {"sheet", "s", "5"},
        {"count", "s", "v", "v"}, {"ordered", "s", "o"}, {"difference", "s", "s"}, {"parts", "s", "w"},
        {"holes", "s", "w"}, {"partOf", "s", "w", "x", "y"}, {"part", "s", "w", "n", "5"}, {"keep", "s", "w"},
        {"far", "s", "2", "x", "y"}, {"spread", "s", "2"}, {"carve", "s"}, {"widen", "s"}, {"seam", "s", "y"},
        {"partsAt", "s", "w", "v"}, {"carvedBy", "s", "c"}, {"digest"}};
    private static final int RUNS = 300;
    private static final int CALLS_OF_A_RUN = 512;

    public static void main(String[] args) {
        Checks checks = new Checks();
        for (int run = 0; run < RUNS; run++) {
            compare(checks, run);
        }
        checks.close();
    }

    private static void compare(Checks checks, int run) {
        Random random = new Random(run);
        ParallaxSheets program = new ParallaxSheets();
        Model model = new Model();
        for (int i = 0; i < CALLS_OF_A_RUN; i++) {
            int number = 0;
            int[] a = firstSize(run, i);
            if (i >= 4) {
                number = nextCall(random, i);
                a = arguments(random, number, model);
            }
            if (!isSame(checks, "run " + run + ", call " + i, program, model, number, a)) {
                return;
            }
        }
    }

    /** Each third run starts with the largest SHEETS, as no chance would bring them. */
    private static int[] firstSize(int run, int sheet) {
        return run % 3 == 0 ? new int[] {sheet, 16, 16, 50 * sheet} : new int[] {sheet, 8, 8, 0};
    }

    private static int[] arguments(Random random, int number, Model model) {
        int[] a = new int[CALLS[number].length - 1];
        for (int k = 0; k < a.length; k++) {
            boolean secondSheet = k == 1 && CALLS[number][1].equals("s") && CALLS[number][2].equals("s");
            if (secondSheet && a[0] >= 0 && a[0] <= 3 && random.nextBoolean()) {
                a[k] = sizedLike(model, a[0]);
            } else {
                a[k] = argument(random, CALLS[number][k + 1].charAt(0), pictureOf(model, a));
            }
        }
        return a;
    }

    private static int[][] pictureOf(Model model, int[] a) {
        return a.length > 0 && a[0] >= 0 && a[0] <= 3 ? model.sheets[a[0]] : model.sheets[0];
    }

    private static boolean isSame(Checks checks, String where, ParallaxSheets program, Model model,
            int number, int[] a) {
        String got = answer(() -> Calls.make(program, CALLS[number][0], a));
        String want = answer(() -> model.call(number, a));
        checks.tell(got.equals(want), where + ": " + CALLS[number][0] + Arrays.toString(a)
                + " answered " + got + ", due is " + want);
        return got.equals(want);
    }

    /** Calls that make a SHEET dull for long (fresh, keep, spread, cut) come more seldom. */
    private static int nextCall(Random random, int i) {
        if (i % 50 == 49) {
            return CALLS.length - 1;
        }
        int number = random.nextInt(CALLS.length - 1);
        boolean dulls = number == 0 || number == 21 || number == 23 || number == 10 || number == 24;
        return dulls && random.nextInt(3) > 0 ? 2 + random.nextInt(3) : number;
    }

    private static int from(Random random, int low, int high) {
        if (random.nextInt(60) == 0) {
            int[] odd = {low - 1, high + 1, Integer.MIN_VALUE, Integer.MAX_VALUE, -1};
            return odd[random.nextInt(odd.length)];
        }
        return random.nextInt(8) == 0 ? (random.nextBoolean() ? low : high) : low + random.nextInt(high - low + 1);
    }

    private static int argument(Random random, char what, int[][] p) {
        switch (what) {
            case 's': return from(random, 0, 3);
            case 'W': return from(random, 1, random.nextInt(3) == 0 ? 16 : 7);
            case 'x': return from(random, 0, p[0].length - 1);
            case 'y': return from(random, 0, p.length - 1);
            case 'v': return from(random, 0, 255);
            case 'r': return from(random, 0, random.nextInt(4) == 0 ? 20 : 5);
            case 'l': return from(random, -50, 50);
            case 'p': return from(random, 0, 100);
            case 'k': return from(random, -9, 9);
            case 'd': return from(random, 1, random.nextInt(2) == 0 ? 9 : 99);
            case 'o': return from(random, 0, p.length * p[0].length - 1);
            case 'w': return random.nextInt(50) == 0 ? from(random, 0, 9) : 4 + 4 * random.nextInt(2);
            case 'n': return from(random, 0, random.nextInt(4));
            case 'c': return from(random, 0, p[0].length - 1);
            default: return from(random, 0, what - '0');
        }
    }

    private static int sizedLike(Model model, int like) {
        int[][] p = model.sheets[like];
        for (int i = 0; i < 4; i++) {
            if (i != like && model.sheets[i].length == p.length && model.sheets[i][0].length == p[0].length) {
                return i;
            }
        }
        return like;
    }

    private interface Call {
        Object make();
    }

    private static String answer(Call call) {
        try {
            return String.valueOf(call.make());
        } catch (RuntimeException e) {
            return "throws." + e.getClass().getSimpleName();
        }
    }
}
