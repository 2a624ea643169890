import java.util.Arrays;

/**
 * The document's sentences that name a boundary, one by one: promises 1 to 15 and 27 to 32, and
 * how much there may be of each thing. EdgesOfSearchTest has promises 16 to 26.
 */
public final class EdgesTest {
    private static final Due due = new Due();
    private static final Edges edges = new Edges(due, EdgesTest::some);
    private static final Edges full = new Edges(due, EdgesTest::fullBank);
    private static final int[] N = Edges.NUMBERS;
    private static final int NO_ANSWER = Edges.NO_ANSWER;

    public static void main(String[] args) {
        aNewObject();
        rod();
        stiff();
        seenAndWet();
        white();
        red();
        wind();
        feed();
        law();
        rodIs();
        ribbon();
        balance();
        moveAndFall();
        seed();
        draw();
        keepAndUndo();
        check();
        count();
        due.end();
    }

    /** Three rods; of six ribbons 4 and 5 have fallen; something else is kept; 20 bytes wait. */
    static BellRibbons some() {
        BellRibbons x = new BellRibbons();
        x.rod(0, 2);
        x.rod(1, -3);
        x.stiff(0, 7);
        x.stiff(1, 4);
        x.white(0, 1, 10, 0);
        x.white(2, -4, 20, 1);
        x.red(1, 5, 3, 0, 1);
        x.red(2, 2, 6, 1, 0);
        x.white(1, 9, 30, 0);
        x.red(0, -9, 40, 2, 3);
        x.fall(4);
        x.fall(5);
        x.keep();
        x.wet(1, true);
        x.seen(2, false);
        x.wind(2);
        x.seed(4321);
        x.stiff(2, 2);
        Due.law(x, "gl+1(c=1);pv*3(w=1)");
        x.feed(0, 0, 0, 0, 0);
        return x;
    }

    /** Ten rods, forty ribbons of which two have fallen, a full tape. */
    private static BellRibbons fullBank() {
        BellRibbons x = new BellRibbons();
        for (int r = 1; r < 10; r++) {
            x.rod(r - 1, r);
        }
        for (int i = 0; i < 40; i++) {
            x.white(i % 10, i % 19 - 9, 1 + i, i % 8);
        }
        x.fall(0);
        x.fall(39);
        while (x.count(3) < 220) {
            x.feed(1, 2, 3, 4, 5);
        }
        return x;
    }

    private static boolean within(int low, int n, int high) {
        return Edges.within(low, n, high);
    }

    private static void aNewObject() {
        due.says("ROD 0 alone; no RIBBONS, LAW; THE SEED 1.");
        BellRibbons x = new BellRibbons();
        int[] counts = {1, 0, 0, 0, 1, 9, 0};
        for (int k = 0; k < 7; k++) {
            due.is("count(" + k + ")", x.count(k), counts[k]);
        }
        due.is("a second rod", x.rodIs(1, 3), NO_ANSWER);
        due.is("a ribbon", x.ribbon(0, 0), NO_ANSWER);
        due.is("none is kept", x.undo(), false);
        due.is("none owes", x.ring(-1), -2);
        due.says("NONE = -1");
        due.is("NONE", BellRibbons.NONE, -1);
        due.says("STIFF (1 to 999; 1 at first), SEEN from the square or not (at first seen), WET or not (at first not)");
        x.rod(0, 9);
        for (int r = 0; r < 2; r++) {
            due.is("stiff of " + r, x.rodIs(r, 5), 1);
            due.is("seen " + r, x.rodIs(r, 6), 1);
            due.is("wet " + r, x.rodIs(r, 7), 0);
        }
        due.says("hanging or fallen");
        due.is("a ribbon", x.white(1, 0, 1, 0), 0);
        due.is("hangs at first", x.ribbon(0, 6), 1);
        due.says("All memory is the bank's own.");
        BellRibbons other = new BellRibbons();
        due.is("another bank's rods", other.count(0), 1);
        due.is("another bank's ribbons", other.count(1), 0);
        other.keep();
        due.is("what another bank keeps", x.undo(), false);
    }

    private static void rod() {
        due.says("A ROD on a ROD: its number; NONE: no such ones, 10 are there.");
        for (int on : N) {
            for (int arm : N) {
                String call = "rod(" + on + "," + arm + ")";
                if (within(0, on, 2) && within(-9, arm, 9)) {
                    edges.answers(call, x -> x.rod(on, arm), 3);
                    edges.answers(call + " hangs on", x -> x.rodIs(x.rod(on, arm), 3), on);
                    edges.answers(call + " at", x -> x.rodIs(x.rod(on, arm), 4), arm);
                } else {
                    edges.leaves(call, x -> x.rod(on, arm), -1);
                }
            }
        }
        for (int on = 0; on < 10; on++) {
            int r = on;
            fullBankRefuses("rod(" + on + ",0)", x -> x.rod(r, 0));
        }
    }

    /** A full bank tells much of itself, so only what matters is looked at behind the call. */
    private static void fullBankRefuses(String call, Edges.Ask ask) {
        BellRibbons x = fullBank();
        due.is(call + " of a full bank", ask.of(x), -1);
        due.is(call + ": rods, ribbons and bytes", x.count(0) * 1000000 + x.count(1) * 1000 + x.count(3), 10040220);
        full.answers(call + " of a full bank", ask, -1);
    }

    private static void stiff() {
        due.says("STIFF: true; false: no such ones.");
        for (int r : N) {
            for (int n : N) {
                String call = "stiff(" + r + "," + n + ")";
                if (within(0, r, 2) && within(1, n, 999)) {
                    edges.answers(call, x -> x.stiff(r, n) ? 1 : 0, 1);
                    edges.answers(call + " is", x -> x.stiff(r, n) ? x.rodIs(r, 5) : 0, n);
                } else {
                    edges.leaves(call, x -> x.stiff(r, n) ? 1 : 0, 0);
                }
            }
        }
    }

    private static void seenAndWet() {
        for (int r : N) {
            for (int k = 0; k < 2; k++) {
                boolean is = k == 1;
                boolean isRod = within(0, r, 2);
                due.says("A ROD is SEEN, or not: true; false: no such one, it is so.");
                asks("seen(" + r + "," + is + ")", x -> x.seen(r, is), isRod && is == (r == 2));
                due.says("A ROD is WET, or not: true; false: no such one, it is so.");
                asks("wet(" + r + "," + is + ")", x -> x.wet(r, is), isRod && is != (r == 1));
            }
        }
    }

    private interface Try {
        boolean of(BellRibbons x);
    }

    private static void asks(String call, Try ask, boolean want) {
        if (want) {
            edges.answers(call, x -> ask.of(x) ? 1 : 0, 1);
            edges.answers(call + " once more", x -> ask.of(x) && ask.of(x) ? 1 : 0, 0);
        } else {
            edges.leaves(call, x -> ask.of(x) ? 1 : 0, 0);
        }
    }

    private static void comes(String call, Edges.Ask ask, boolean isOne) {
        if (isOne) {
            edges.answers(call, ask, 6);
        } else {
            edges.leaves(call, ask, -1);
        }
    }

    private static void white() {
        due.says("A white RIBBON: its number; NONE: no such ones, 40 are there.");
        for (int n : N) {
            comes("white on rod " + n, x -> x.white(n, -9, 1, 7), within(0, n, 2));
            comes("white at arm " + n, x -> x.white(2, n, 99, 0), within(-9, n, 9));
            comes("white of length " + n, x -> x.white(0, 9, n, 0), within(1, n, 99));
            comes("white of owner " + n, x -> x.white(0, 0, 1, n), within(0, n, 7));
        }
        fullBankRefuses("white", x -> x.white(0, 0, 1, 0));
        fullBankRefuses("white with one that falls", x -> x.fall(5) ? x.white(0, 0, 1, 0) : 0);
    }

    private static void red() {
        due.says("A red RIBBON: its number; NONE: no such ones, one PERSON twice, 40 are there.");
        for (int n : N) {
            comes("red on rod " + n, x -> x.red(n, -9, 1, 7, 0), within(0, n, 2));
            comes("red at arm " + n, x -> x.red(2, n, 99, 0, 7), within(-9, n, 9));
            comes("red of length " + n, x -> x.red(0, 9, n, 0, 1), within(1, n, 99));
            for (int to : N) {
                boolean areTwo = within(0, n, 7) && within(0, to, 7) && n != to;
                comes("red of " + n + " to " + to, x -> x.red(0, 0, 1, n, to), areTwo);
            }
        }
        fullBankRefuses("red", x -> x.red(0, 0, 1, 0, 1));
    }

    private static void wind() {
        due.says("WIND: true; false: no such one.");
        for (int v : N) {
            if (within(-9, v, 9)) {
                edges.answers("wind(" + v + ")", x -> x.wind(v) && x.wind(v) ? x.count(5) : -1, v + 9);
            } else {
                edges.leaves("wind(" + v + ")", x -> x.wind(v) ? 1 : 0, 0);
            }
        }
    }

    private static void feed() {
        due.says("how many it has; NONE if that would be more than 220.");
        BellRibbons x = new BellRibbons();
        for (int k = 1; k <= 11; k++) {
            due.is("feed " + k, x.feed(0, 0, 0, 0, 0), 20 * k);
        }
        full.answers("feed of a full bank", y -> y.feed(-1, -1, -1, -1, -1), -1);
        fullBankRefuses("feed", y -> y.feed(-1, -1, -1, -1, -1));
        full.answers("the bytes before stay", y -> y.feed(-1, -1, -1, -1, -1) + y.law(200), -1 - 1000);
        due.says("Twenty bytes come behind the tape, the highest of each int first");
        for (int place = 0; place < 220; place++) {
            // the leans of ten rods that are all 0, but for one byte
            BellRibbons y = new BellRibbons();
            for (int k = 0; k < 220; k += 20) {
                int[] five = new int[5];
                if (place / 20 == k / 20) {
                    five[place % 20 / 4] = 1 << 24 - 8 * (place % 4);
                }
                y.feed(five[0], five[1], five[2], five[3], five[4]);
            }
            due.is("a byte at " + place, y.check(55), Math.min(1, place / 4));
        }
    }

    private static void law() {
        due.says("NONE: no such n, it has not so many (the tape stays).");
        for (int n : N) {
            if (within(1, n, 20)) {
                edges.empties("law(" + n + ") of noughts", x -> x.law(n), -1000);
            } else {
                edges.leaves("law(" + n + ") of 20 bytes", x -> x.law(n), -1);
            }
            if (within(1, n, 200)) {
                full.answers("law(" + n + ") of 220 bytes", x -> x.law(n) * 1000 + x.count(3), -1000000);
            } else {
                full.answers("law(" + n + ") of 220 bytes", x -> x.law(n) * 1000 + x.count(3), -1000 + 220);
            }
            due.is("law(" + n + ") of an empty tape", new BellRibbons().law(n), -1);
        }
        due.says("THE LAW by the first n bytes of the tape (1 to 200; empty then), in place of the one before: how many CLAUSES");
        for (int clauses = 1; clauses <= 14; clauses++) {
            BellRibbons x = some();
            x.check(0);
            String text = "g0(1=1)" + ";p5(1=1)".repeat(clauses - 1);
            due.is(text, Due.law(x, text), clauses);
            due.is("clauses", x.count(2), clauses);
            due.is("the tape is empty", x.count(3), 0);
            due.is("the one before has gone, g", x.ribbon(3, 7), 0);
            due.is("the one before has gone, p", x.ribbon(3, 8), clauses > 1 ? 5 : 0);
        }
        due.says("a FAULT: -1000 times its number, less its place (the TEXT before stays)");
        faultOf("g5(1=1);", -1008);
        faultOf("g5(1=1);p123456(1=1)", -2014);
        faultOf("g5(1=1);p[[[[[[[", -5015);
        faultOf("g5(1=1)" + ";p1(1=1)".repeat(14), -4112);
    }

    private static void faultOf(String text, int want) {
        Edges empty = new Edges(due, () -> {
            BellRibbons x = some();
            x.check(0);
            return x;
        });
        empty.empties(text, x -> Due.law(x, text), want);
    }

    private static void rodIs() {
        due.says("-1000000000 for others.");
        for (int r : N) {
            for (int what : N) {
                if (!within(0, r, 2) || !within(0, what, 7)) {
                    edges.leaves("rodIs(" + r + "," + what + ")", x -> x.rodIs(r, what), NO_ANSWER);
                }
            }
        }
        due.says("3 on which it hangs (ROD 0: NONE), 4 its ARM (ROD 0: 0)");
        edges.leaves("rodIs(0,3)", x -> x.rodIs(0, 3), -1);
        edges.leaves("rodIs(0,4)", x -> x.rodIs(0, 4), 0);
        edges.leaves("rodIs(2,3)", x -> x.rodIs(2, 3), 1);
        edges.leaves("rodIs(2,4)", x -> x.rodIs(2, 4), -3);
        due.says("6 SEEN, 7 WET (1, 0)");
        edges.leaves("rodIs(1,6)", x -> x.rodIs(1, 6), 1);
        edges.leaves("rodIs(2,6)", x -> x.rodIs(2, 6), 0);
        edges.leaves("rodIs(1,7)", x -> x.rodIs(1, 7), 1);
        edges.leaves("rodIs(2,7)", x -> x.rodIs(2, 7), 0);
        due.says("LOAD of a ROD: g of all RIBBONS that hang on it, and LOADS of all RODS that hang on it.");
        ofRods(0, 10 + 4 + 27, 4 + 27, 27);
        due.says("MOMENT of a ROD: of its RIBBONS ARM times g, and p; of RODS that hang on it ARM times LOAD; all together.");
        ofRods(1, 10 + 2 * 31, 20 + 6 - 3 * 27, -80 + 14);
        due.says("LEAN: MOMENT through STIFF, toward 0, held to -9 and 9.");
        ofRods(2, 9, -9, -9);
        leanOf(89, 10, 8);
        leanOf(90, 10, 9);
        leanOf(99, 10, 9);
        leanOf(99, 9, 9);
        leanOf(9, 10, 0);
        leanOf(10, 10, 1);
        leanOf(99, 999, 0);
        leanOf(99, 1, 9);
    }

    private static void ofRods(int what, int... want) {
        for (int k = 0; k < want.length; k++) {
            int r = k;
            edges.leaves("rodIs(" + r + "," + what + ")", x -> x.rodIs(r, what), want[r]);
        }
    }

    /** A moment by a ribbon at arm 1, and without law the other way round at arm -1. */
    private static void leanOf(int moment, int stiff, int lean) {
        for (int arm = -1; arm <= 1; arm++) {
            BellRibbons x = new BellRibbons();
            x.white(0, arm, moment, 0);
            x.stiff(0, stiff);
            due.is(arm * moment + " through " + stiff, x.rodIs(0, 2), arm * lean);
        }
    }

    private static void ribbon() {
        due.says("7 how heavy it is, 8 by how much it is pushed (7, 8: as if it hung); -1000000000 for others.");
        int[][] all = {
            {0, 1, 10, 0, 0, -1, 1, 10, 0}, {2, -4, 20, 0, 1, -1, 1, 20, 0}, {1, 5, 3, 1, 0, 1, 1, 4, 6},
            {2, 2, 6, 1, 1, 0, 1, 7, 0}, {1, 9, 30, 0, 0, -1, 0, 30, 6}, {0, -9, 40, 1, 2, 3, 0, 41, 0}};
        for (int i : N) {
            for (int what : N) {
                boolean isOne = within(0, i, 5) && within(0, what, 8);
                edges.leaves("ribbon(" + i + "," + what + ")", x -> x.ribbon(i, what), isOne ? all[i][what] : NO_ANSWER);
            }
        }
    }

    private static void balance() {
        due.says("BALANCE; -1000000000: no such PERSON.");
        int[] all = {10 - 3 + 6, 20 - 6 + 3, 0, 0, 0, 0, 0, 0};
        for (int p : N) {
            edges.leaves("balance(" + p + ")", x -> x.balance(p), within(0, p, 7) ? all[p] : NO_ANSWER);
        }
    }

    private static void moveAndFall() {
        due.says("MOVED: true; false: no such ones, it has fallen.");
        for (int n : N) {
            moves(n, 2, 9, within(0, n, 3));
            moves(3, n, -9, within(0, n, 2));
            moves(0, 1, n, within(-9, n, 9));
        }
        due.says("A RIBBON falls: true; false: no such one, it has.");
        for (int i : N) {
            asks("fall(" + i + ")", x -> x.fall(i), within(0, i, 3));
        }
    }

    private static void moves(int i, int r, int arm, boolean isOne) {
        String call = "move(" + i + "," + r + "," + arm + ")";
        if (isOne) {
            edges.answers(call, x -> x.move(i, r, arm) && x.move(i, r, arm) ? 1 : 0, 1);
            edges.answers(call + " at", x -> x.move(i, r, arm) ? x.ribbon(i, 0) * 100 + x.ribbon(i, 1) : -1000, 100 * r + arm);
        } else {
            edges.leaves(call, x -> x.move(i, r, arm) ? 1 : 0, 0);
        }
    }

    private static void seed() {
        due.says("THE SEED (0 to 65535; X, too): true; false: no such number.");
        for (int n : N) {
            if (within(0, n, 65535)) {
                edges.answers("seed(" + n + ")", x -> x.seed(n) && x.seed(n) ? x.count(4) : -1, n);
            } else {
                edges.leaves("seed(" + n + ")", x -> x.seed(n) ? 1 : 0, 0);
            }
        }
    }

    private static void draw() {
        due.says("DRAWN: how many days; NONE: no such n.");
        for (int n : N) {
            if (within(1, n, 60)) {
                // the moments do not come near 0 by any wind, and rods 0 and 1 are seen
                edges.answers("draw(" + n + ")", x -> x.draw(n), n);
            } else {
                edges.leaves("draw(" + n + ")", x -> x.draw(n), -1);
            }
        }
        due.says("X = (25173 X + 13849) modulo 65536 (X is THE SEED at first, 1): WIND becomes X modulo 19, less 9");
        for (int n : N) {
            if (within(0, n, 65535)) {
                long next = (25173L * n + 13849) % 65536;
                edges.answers("X behind " + n, x -> x.seed(n) && x.draw(1) > 0 ? x.count(4) : -1, next);
                edges.answers("wind behind " + n, x -> x.seed(n) && x.draw(1) > 0 ? x.count(5) : -1, next % 19);
            }
        }
        due.is("X behind the first day", drawnFrom(1).count(4), 39022);
        due.says("how many days on which some SEEN ROD leans");
        BellRibbons x = new BellRibbons();
        x.rod(0, 0);
        x.white(1, 1, 5, 0);
        x.seen(1, false);
        due.is("it is not seen", x.draw(60), 0);
        x.seen(1, true);
        due.is("it is seen", x.draw(60), 60);
        x.seen(0, false);
        due.is("the other one needn't be", x.draw(60), 60);
        x.stiff(1, 6);
        due.is("it does not lean", x.draw(60), 0);
    }

    private static BellRibbons drawnFrom(int n) {
        BellRibbons x = new BellRibbons();
        x.seed(n);
        x.draw(1);
        return x;
    }

    private static void keepAndUndo() {
        due.says("KEPT: how many RIBBONS hang.");
        due.is("of none", new BellRibbons().keep(), 0);
        edges.answers("of four that hang", BellRibbons::keep, 4);
        due.is("of a full bank, two of which have fallen", fullBank().keep(), 38);
        due.says("UNDONE: true; false: none was KEPT.");
        BellRibbons x = new BellRibbons();
        x.rod(0, 1);
        x.white(1, 1, 1, 1);
        due.is("undo()", x.undo(), false);
        due.is("all stays", x.count(0) * 10 + x.count(1), 21);
        due.says("KEPT: RIBBONS, RODS, WIND, X; UNDONE: as they were KEPT last.");
        due.is("keep()", x.keep(), 1);
        x.rod(1, 4);
        x.red(2, 1, 5, 0, 1);
        x.fall(0);
        x.wind(5);
        x.draw(1);
        due.is("keep()", x.keep(), 1);
        long[] before = Edges.state(x);
        x.wind(-5);
        x.seed(0);
        x.rod(0, 0);
        x.fall(1);
        due.is("undo()", x.undo(), true);
        due.is("as kept last", Arrays.equals(before, Edges.state(x)), true);
        due.is("undo() again", x.undo(), true);
        due.is("as kept last still", Arrays.equals(before, Edges.state(x)), true);
        Due.law(x, "g1(1=1)");
        x.feed(1, 2, 3, 4, 5);
        due.is("undo() behind a law", x.undo(), true);
        due.is("the law and the tape are not undone", x.count(2) * 100 + x.count(3), 120);
    }

    private static void check() {
        due.says("-2: it has not so many (the tape stays).");
        for (int n : N) {
            if (!within(0, n, 5)) {
                edges.leaves("check(" + n + ") of 20 bytes", x -> x.check(n), -2);
            }
            if (!within(0, n, 55)) {
                full.answers("check(" + n + ") of 220 bytes", x -> x.check(n) * 1000 + x.count(3), -2000 + 220);
            }
            if (n != 0) {
                due.is("check(" + n + ") of an empty tape", new BellRibbons().check(n), -2);
            }
        }
        due.says("CHECK by the first n numbers of the tape (four bytes each; empty then): NONE: right; else the place of the first number that is not so (n: some are lacking)");
        int[] leans = {9, -9, -9, 0, 0};
        for (int n = 0; n <= 5; n++) {
            checks(n, n == 3 ? -1 : Math.min(3, n), leans);
            for (int wrong = 0; wrong < n && wrong < 3; wrong++) {
                int[] others = leans.clone();
                others[wrong] ^= 1 << 8 * n;
                checks(n, wrong, others);
            }
        }
    }

    private static void checks(int n, int want, int... numbers) {
        Edges told = new Edges(due, () -> {
            BellRibbons x = some();
            x.check(0);
            Due.feedNumbers(x, numbers);
            return x;
        });
        told.empties("check(" + n + ") of " + Arrays.toString(numbers), x -> x.check(n), want);
    }

    private static void count() {
        due.says("0 RODS, 1 RIBBONS, 2 CLAUSES, 3 bytes of the tape, 4 X, 5 the WIND and 9, 6 how many RIBBONS hang. NONE for others.");
        int[] all = {3, 6, 2, 20, 4321, 11, 4};
        for (int what : N) {
            edges.leaves("count(" + what + ")", x -> x.count(what), within(0, what, 6) ? all[what] : -1);
        }
    }
}
