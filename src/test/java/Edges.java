import java.util.Arrays;

/**
 * Asks calls at the edges of what the document names, each on an object of its own, and looks
 * whether a refused call has left all as it was.
 */
final class Edges {
    static final int MIN = Integer.MIN_VALUE;
    static final int MAX = Integer.MAX_VALUE;
    static final int NO_ANSWER = -1000000000;

    /** Numbers just within and just beyond every bound of the document, and those far off. */
    static final int[] NUMBERS = {
        MIN, MIN + 1, MIN + 9, -1000000000, -65536, -1000, -999, -257, -256, -255, -128, -100, -99, -41, -40, -39, -19,
        -18, -11, -10, -9, -8, -7, -6, -3, -2, -1, 0, 1, 2, 3, 4, 5, 6, 7, 8, 9, 10, 11, 12, 18, 19, 20, 21, 38, 39, 40,
        41, 59, 60, 61, 98, 99, 100, 127, 128, 199, 200, 201, 219, 220, 221, 254, 255, 256, 257, 998, 999, 1000, 65534,
        65535, 65536, 1 << 30, (1 << 30) + 1, 715827883, 1431655766, MAX - 9, MAX - 1, MAX};

    interface Ask {
        long of(BellRibbons x);
    }

    interface Made {
        BellRibbons make();
    }

    private final Due due;
    private final Made made;

    Edges(Due due, Made made) {
        this.due = due;
        this.made = made;
    }

    static boolean within(int low, int n, int high) {
        return low <= n && n <= high;
    }

    /** All that the face tells of a bank, but for the tape. */
    static long[] state(BellRibbons x) {
        int rods = x.count(0);
        int ribbons = x.count(1);
        long[] all = new long[7 + 8 * rods + 9 * ribbons + 8];
        int at = 0;
        for (int what = 0; what < 7; what++) {
            all[at++] = what == 3 ? 0 : x.count(what);
        }
        for (int r = 0; r < rods; r++) {
            for (int what = 0; what < 8; what++) {
                all[at++] = x.rodIs(r, what);
            }
        }
        for (int i = 0; i < ribbons; i++) {
            for (int what = 0; what < 9; what++) {
                all[at++] = x.ribbon(i, what);
            }
        }
        for (int p = 0; p < 8; p++) {
            all[at++] = x.balance(p);
        }
        return all;
    }

    /** What the call answers on a new bank, however it changes it. */
    void answers(String call, Ask ask, long want) {
        due.is(call, ask.of(made.make()), want);
    }

    /** The call answers so and changes nothing, the tape neither. */
    void leaves(String call, Ask ask, long want) {
        BellRibbons x = made.make();
        asksOnly(call, x, ask, want, x.count(3));
    }

    /** The call answers so and changes nothing but the tape, which is empty then. */
    void empties(String call, Ask ask, long want) {
        asksOnly(call, made.make(), ask, want, 0);
    }

    private void asksOnly(String call, BellRibbons x, Ask ask, long want, int tape) {
        long[] before = state(x);
        due.is(call, ask.of(x), want);
        due.is(call + " leaves on the tape", x.count(3), tape);
        due.is(call + " leaves all else as it was", Arrays.equals(before, state(x)), true);
        if (x.undo()) {
            due.is(call + " leaves what is kept", Arrays.equals(state(keptOf(made.make())), state(x)), true);
        }
    }

    private static BellRibbons keptOf(BellRibbons x) {
        x.undo();
        return x;
    }
}
