/**
 * The document's sentences that name a boundary, one by one: promises 16 to 26, which search the
 * bank. Most calls are asked of the bank that EdgesTest makes.
 */
public final class EdgesOfSearchTest {
    private static final Due due = new Due();
    private static final Edges edges = new Edges(due, EdgesTest::some);
    private static final Edges noTape = new Edges(due, EdgesOfSearchTest::withoutTape);
    private static final int[] N = Edges.NUMBERS;
    // a tape's byte that stands for nothing where 0 to 18 may stand
    private static final int NOTHING = 255;

    public static void main(String[] args) {
        pay();
        payLengths();
        payTies();
        level();
        levelBytes();
        falseBy();
        falseLengths();
        suspects();
        gust();
        gustTies();
        fraud();
        fraudLengths();
        fraudWeights();
        owes();
        ring();
        ringTies();
        clear();
        run();
        runLimits();
        order();
        orderTies();
        due.end();
    }

    private static BellRibbons withoutTape() {
        BellRibbons x = EdgesTest.some();
        x.check(0);
        return x;
    }

    /** The bank of EdgesTest with these bytes alone on its tape, and 255 behind them. */
    private static Edges told(int... bytes) {
        return new Edges(due, () -> {
            BellRibbons x = withoutTape();
            Due.feed(x, bytes);
            return x;
        });
    }

    private static boolean within(int low, int n, int high) {
        return Edges.within(low, n, high);
    }

    private static boolean areTwo(int a, int b) {
        return within(0, a, 7) && within(0, b, 7) && a != b;
    }

    private static void pay() {
        due.says("-2: it can't be; -3: no such ones, one PERSON twice.");
        for (int a : N) {
            for (int b : N) {
                int want = !areTwo(a, b) ? -3 : a + b == 1 ? 0 : -2;
                edges.leaves("pay(" + a + "," + b + ",1,-1)", x -> x.pay(a, b, 1, -1), want);
            }
        }
        due.says("PAID (n 1 to 98)");
        for (int n : N) {
            int want = !within(1, n, 98) ? -3 : n > 9 ? -2 : 0;
            edges.leaves("pay(0,1," + n + ",0)", x -> x.pay(0, 1, n, 0), want);
            edges.leaves("pay(3,2," + n + ",2)", x -> x.pay(3, 2, n, 2), within(1, n, 98) ? -2 : -3);
        }
        due.says("what NONE how many LEANS become others, 0 the RIBBON cut, 1 the one knotted, 2 as NONE, and it is done");
        for (int what : N) {
            if (what != 2) {
                int want = !within(-1, what, 1) ? -3 : what == 1 ? 1 : 0;
                edges.leaves("pay(0,1,9," + what + ")", x -> x.pay(0, 1, 9, what), want);
            }
        }
        edges.answers("pay(0,1,9,2)", x -> x.pay(0, 1, 9, 2), 0);
        edges.answers("pay(0,1,9,2) cuts", x -> x.pay(0, 1, 9, 2) + x.ribbon(0, 2), 1);
        edges.answers("pay(0,1,9,2) knots", x -> x.pay(0, 1, 9, 2) + x.ribbon(1, 2), 29);
    }

    private static BellRibbons twoWhites(int first, int second) {
        BellRibbons x = new BellRibbons();
        x.white(0, 0, first, 6);
        x.white(0, 0, second, 7);
        return x;
    }

    private static void payLengths() {
        due.says("so much is cut (it stays at least 1 long), to a white one of the other so much is knotted (99 at most)");
        int[] lengths = {1, 2, 3, 49, 50, 51, 97, 98, 99};
        for (int first : lengths) {
            for (int second : lengths) {
                for (int n = 1; n <= 98; n++) {
                    BellRibbons x = twoWhites(first, second);
                    boolean canBe = first - n >= 1 && second + n <= 99;
                    String call = n + " from one of " + first + " to one of " + second;
                    due.is(call, x.pay(6, 7, n, 2), canBe ? 0 : -2);
                    due.is(call + ", the first", x.ribbon(0, 2), canBe ? first - n : first);
                    due.is(call + ", the second", x.ribbon(1, 2), canBe ? second + n : second);
                }
            }
        }
        due.says("from a white RIBBON of the one");
        BellRibbons x = twoWhites(50, 50);
        x.red(0, 0, 50, 5, 6);
        x.red(0, 0, 50, 6, 5);
        due.is("a red one gives none", x.pay(5, 6, 1, -1), -2);
        due.is("a red one takes none", x.pay(6, 5, 1, -1), -2);
        x.fall(0);
        due.is("a fallen one gives none", x.pay(6, 7, 1, -1), -2);
        due.is("a fallen one takes none", x.pay(7, 6, 1, -1), -2);
    }

    private static void payTies() {
        due.says("the two by which fewest LEANS (of all RODS) become others; of like ones the lowest first, then second RIBBON");
        BellRibbons x = new BellRibbons();
        x.rod(0, 0);
        for (int k = 0; k < 6; k++) {
            x.white(1, 0, 10, k % 2);
        }
        due.is("all alike, the first", x.pay(1, 0, 1, 0), 1);
        due.is("all alike, the second", x.pay(1, 0, 1, 1), 0);
        x.move(1, 1, 1);
        x.move(0, 1, 1);
        // moment 20 of rod 1, held to 9: by these two it stays
        due.is("held, the first", x.pay(1, 0, 1, 0), 1);
        x.stiff(1, 10);
        due.is("2 becomes 1 by the first of them", x.pay(1, 0, 1, 0) * 10 + x.pay(1, 0, 1, 1), 10);
        x.move(0, 1, 0);
        due.is("10 becomes 9 by it, another is cut", x.pay(1, 0, 1, 0) * 10 + x.pay(1, 0, 1, 1), 30);
        x.seen(0, false);
        x.seen(1, false);
        due.is("seen or not", x.pay(1, 0, 1, 0) * 10 + x.pay(1, 0, 1, 1), 30);
        due.is("none leans otherwise", x.pay(1, 0, 1, -1), 0);
        x.fall(3);
        x.fall(5);
        due.is("one leans otherwise", x.pay(1, 0, 1, -1), 1);
        BellRibbons pushed = twoWhites(10, 10);
        pushed.stiff(0, 10);
        Due.law(pushed, "pl(1=1)");
        due.is("pushed as much together as before", pushed.pay(6, 7, 9, -1), 0);
        Due.law(pushed, "pl*2(o=7);pl(1=1)");
        due.is("30 becomes 39", pushed.pay(6, 7, 9, -1), 0);
        due.is("30 becomes 29", pushed.pay(7, 6, 1, -1), 1);
    }

    /** Ribbons 0 to 3 hang, 4 and 5 have fallen. */
    private static final int[] SIX = {0, 0, 9, 1, 1, 10, 2, 2, 11, 3, 0, 12, 4, 1, 13, 5, 2, 14};

    private static void level() {
        Edges six = told(SIX);
        for (int n : N) {
            for (int what : N) {
                String call = "level(" + n + "," + what + ")";
                boolean isAsked = within(1, n, 6) && (what == -1 || what == 6 || within(0, what, n - 1));
                if (!isAsked) {
                    due.says("-3: no such n, what, it has not so many (the tape stays).");
                    six.leaves(call, x -> x.level(n, what), -3);
                } else if (n > 4) {
                    due.says("-2: no such ones, one twice, one has fallen, a place twice");
                    six.empties(call, x -> x.level(n, what), -2);
                } else {
                    due.says("RIBBON, ROD, ARM and 9; n 1 to 6; empty then");
                    six.answers(call, x -> x.level(n, what) >= 0 ? x.count(3) : -1, 0);
                }
                due.says("-3: no such n, what, it has not so many (the tape stays).");
                noTape.leaves(call, x -> x.level(n, what), -3);
            }
        }
        due.says("what NONE the sum, 6 as NONE, and it is done, else the place (from 0) at which RIBBON what of them hangs");
        Edges one = told(3, 2, 18);
        one.empties("level(1,0)", x -> x.level(1, 0), 0);
        one.answers("level(1,6) hangs it", x -> x.level(1, 6) < 0 ? -1 : x.ribbon(3, 0) * 100 + x.ribbon(3, 1), 209);
        one.answers("level(1,6) as NONE", x -> x.level(1, 6) - levelOne(), 0);
    }

    private static int levelOne() {
        BellRibbons x = withoutTape();
        Due.feed(x, 3, 2, 18);
        return x.level(1, -1);
    }

    private static void levelBytes() {
        due.says("-2: no such ones, one twice, one has fallen, a place twice");
        for (int b = 0; b < 256; b++) {
            oneIsHung("ribbon " + b, b <= 3, b, 0, 9);
            oneIsHung("rod " + b, b <= 2, 3, b, 9);
            oneIsHung("arm and 9 of " + b, b <= 18, 3, 2, b);
        }
        for (int first = 0; first < 6; first++) {
            for (int second = 0; second < 6; second++) {
                if (first != second) {
                    int[] twice = SIX.clone();
                    twice[3 * second] = twice[3 * first];
                    told(twice).empties("ribbon " + first + " at " + second, x -> x.level(6, 6), -2);
                    int[] atOne = {0, 0, 9, 1, 1, 10, 2, 2, 11, 3, 0, 12};
                    if (first < 4 && second < 4) {
                        atOne[3 * second + 1] = atOne[3 * first + 1];
                        atOne[3 * second + 2] = atOne[3 * first + 2];
                        told(atOne).empties("place " + first + " at " + second, x -> x.level(4, 6), -2);
                    }
                }
            }
        }
        told(0, 0, 9, 1, 0, 10).answers("one rod, two arms", x -> x.level(2, -1) >= 0 ? 1 : 0, 1);
        told(0, 0, 9, 1, 1, 9).answers("one arm, two rods", x -> x.level(2, -1) >= 0 ? 1 : 0, 1);
        told(0, 0, 9, NOTHING).empties("what stands behind does not matter", x -> x.level(1, 0), 0);
        due.says("of like ones the least row of places (as told) by RIBBONS' order");
        BellRibbons x = new BellRibbons();
        for (int k = 0; k < 6; k++) {
            x.white(0, 0, 7, 0);
        }
        for (int what = 0; what < 6; what++) {
            Due.feed(x, 5, 0, 18, 0, 0, 0, 3, 0, 17, 2, 0, 1, 4, 0, 16, 1, 0, 2);
            due.is("six alike, place of " + what, x.level(6, what), what);
        }
        due.says("LEANS of all RODS, without sign, together least");
        Due.feed(x, 0, 0, 0);
        due.is("-63 is held to -9", x.level(1, -1), 9);
        x.seen(0, false);
        Due.feed(x, 0, 0, 18);
        due.is("63 is held to 9, seen or not", x.level(1, -1), 9);
    }

    private static void oneIsHung(String call, boolean canBe, int ribbon, int rod, int arm) {
        Edges one = told(ribbon, rod, arm);
        if (canBe) {
            one.answers("level by " + call, x -> x.level(1, 0) * 1000 + x.count(3), 0);
        } else {
            one.empties("level by " + call, x -> x.level(1, 6), -2);
        }
    }

    private static void falseBy() {
        // two rods are seen and lean 9 and -9
        Edges asTheyAre = told(18, 0);
        for (int i : N) {
            due.says("NONE: no such RIBBON, it has not so many (the tape stays).");
            noTape.leaves("falseBy(" + i + ") of no bytes", x -> x.falseBy(i), -1);
            if (!within(0, i, 5)) {
                asTheyAre.leaves("falseBy(" + i + ")", x -> x.falseBy(i), -1);
            } else if (i >= 4) {
                due.says("how many LENGTHS RIBBON i may have (0, if it has fallen)");
                asTheyAre.empties("falseBy(" + i + ")", x -> x.falseBy(i), 0);
            } else {
                due.says("LEAN and 9 of each SEEN ROD, 0 to 18; empty then");
                asTheyAre.answers("falseBy(" + i + ")", x -> x.falseBy(i) >= 0 ? x.count(3) : -1, 0);
            }
        }
        due.says("-2: no such LEANS");
        for (int b = 0; b < 256; b++) {
            if (b > 18) {
                told(b, 0).empties("a first lean by " + b, x -> x.falseBy(0), -2);
                told(18, b).empties("a second lean by " + b, x -> x.falseBy(0), -2);
                told(b, 0).empties("a first lean by " + b + ", one that fell", x -> x.falseBy(4), -2);
            } else if (b != 18) {
                told(b, b == 0 ? 1 : 0).answers("a first lean by " + b, x -> x.falseBy(0) >= 0 ? x.count(3) : -1, 0);
            }
            told(18, 0, b).answers("a third byte " + b, x -> x.falseBy(0) >= 0 ? x.count(3) : -1, 0);
        }
    }

    private static void falseLengths() {
        due.says("which RIBBONS that hang may be of another LENGTH (1 to 99, than told)");
        for (int length = 1; length <= 99; length++) {
            BellRibbons x = new BellRibbons();
            x.white(0, 0, length, 0);
            Due.feed(x, 9);
            due.is("any but " + length, x.falseBy(0), 98);
            x.move(0, 0, 1);
            x.stiff(0, 11);
            // lengths 1 to 10 lean 0; 11 to 21 lean 1; 99 alone leans 9
            Due.feed(x, 9);
            due.is("1 to 10 but " + length, x.falseBy(0), length <= 10 ? 9 : 10);
            Due.feed(x, 10);
            due.is("11 to 21 but " + length, x.falseBy(0), length >= 11 && length <= 21 ? 10 : 11);
            Due.feed(x, 18);
            due.is("99 but " + length, x.falseBy(0), length == 99 ? 0 : 1);
            x.seen(0, false);
            due.is("nothing is seen, no byte is asked", x.falseBy(0), 98);
        }
        for (int k = 0; k < 2; k++) {
            // 0 long it would lean 0, 100 long 1 by a stiffness of 100
            BellRibbons x = new BellRibbons();
            x.white(0, 1, 5, 0);
            x.stiff(0, k == 0 ? 1 : 100);
            int lean = 9 + k;
            Due.feed(x, lean);
            due.is("falseBy by " + 100 * k, x.falseBy(0), 0);
            Due.feed(x, lean);
            due.is("suspects by " + 100 * k, x.suspects(), 0);
            Due.feed(x, lean, 9);
            due.is("gust by " + 100 * k, x.gust(1, 1), -3);
            x.stiff(0, k == 0 ? 2 : 99);
            Due.feed(x, lean);
            due.is("falseBy by " + (1 + 98 * k), x.falseBy(0), 1);
            Due.feed(x, lean);
            due.is("suspects by " + (1 + 98 * k), x.suspects(), 1);
            Due.feed(x, lean, 9);
            due.is("gust by " + (1 + 98 * k), x.gust(1, 1), 1);
        }
        due.says("by the WIND as it is");
        BellRibbons x = new BellRibbons();
        x.white(0, 0, 5, 0);
        Due.law(x, "pv*l(1=1)");
        for (int v = -9; v <= 9; v++) {
            x.wind(v);
            Due.feed(x, 9 + v);
            due.is("length 1 by wind " + v, x.falseBy(0), v == 0 ? 98 : Math.abs(v) == 9 ? 98 : 1);
        }
    }

    private static void suspects() {
        due.says("-2: no such LEANS; -1: it has not so many (the tape stays).");
        noTape.leaves("suspects() of no bytes", x -> x.suspects(), -1);
        for (int b = 19; b < 256; b++) {
            int lean = b;
            told(lean, 0).empties("a first lean by " + b, x -> x.suspects(), -2);
            told(18, lean).empties("a second lean by " + b, x -> x.suspects(), -2);
        }
        told(9, 18).empties("nobody", x -> x.suspects(), 0);
        told(18, 0).answers("empty then", x -> x.suspects() >= 0 ? x.count(3) : -1, 0);
        due.says("SUSPECTS by the first bytes of the tape (as falseBy()), as bits");
        BellRibbons x = new BellRibbons();
        for (int i = 0; i < 40; i++) {
            x.white(0, 0, 1 + i, 0);
            Due.feed(x, 9);
            due.is("the first " + (i + 1), x.suspects(), (1L << i + 1) - 1);
        }
        x.fall(39);
        x.fall(31);
        x.fall(0);
        Due.feed(x, 9);
        due.is("but those that fell", x.suspects(), (1L << 39) - 1 - (1L << 31) - 1);
        x.seen(0, false);
        due.is("nothing is seen, no byte is asked", x.suspects(), (1L << 39) - 1 - (1L << 31) - 1);
        due.is("no ribbon, no bytes", new BellRibbons().suspects(), -1);
    }

    private static void gust() {
        due.says("NONE: no such n, what, it has not so many (the tape stays).");
        Edges six = told(18, 0, 9, 10, 11, 0, 18, 1);
        for (int n : N) {
            for (int what : N) {
                String call = "gust(" + n + "," + what + ")";
                if (within(1, n, 6) && within(0, what, 1)) {
                    six.answers(call, x -> x.gust(n, what) >= 0 ? x.count(3) : -1, 0);
                } else {
                    six.leaves(call, x -> x.gust(n, what), -1);
                }
                noTape.leaves(call + " of no bytes", x -> x.gust(n, what), -1);
            }
        }
        BellRibbons unseen = new BellRibbons();
        unseen.white(0, 0, 5, 0);
        unseen.seen(0, false);
        due.is("nothing is seen, but a wind is lacking", unseen.gust(1, 0), -1);
        Due.feed(unseen, 3);
        due.is("nothing is seen, a wind is told", unseen.gust(1, 0), 3);
        due.says("-2: no such LEANS, WINDS; -3: nothing may be FALSE so");
        for (int k = 19; k < 256; k++) {
            int b = k;
            told(b, 0, 9).empties("a first lean by " + b, x -> x.gust(1, 0), -2);
            told(18, b, 9).empties("a second lean by " + b, x -> x.gust(1, 0), -2);
            told(18, 0, b).empties("a first wind by " + b, x -> x.gust(1, 1), -2);
            told(18, 0, 9, 9, 9, 9, 9, b).empties("a sixth wind by " + b, x -> x.gust(6, 1), -2);
            told(9, 18, b).empties("no such wind, and nothing may be false", x -> x.gust(1, 1), -2);
            told(18, 0, 9, b).empties("a second of one by " + b, x -> x.gust(1, 0), 9);
        }
        due.says("A GUST by the first bytes of the tape (as falseBy(), then n WINDS and 9; n 1 to 6; empty then), what 0 the WIND and 9");
        for (int b = 0; b <= 18; b++) {
            int wind = b;
            told(18, 0, wind).empties("a wind by " + b, x -> x.gust(1, 0), wind);
        }
        due.says("what 0 the WIND and 9, 1 how many with one PICTURE at most");
        BellRibbons two = new BellRibbons();
        two.white(0, 0, 5, 0);
        two.white(0, 0, 5, 1);
        Due.law(two, "p7(v=1&o=0&l=6)");
        Due.feed(two, 9, 10);
        due.is("one of 196 is pushed", two.gust(1, 1), 195);
        Due.feed(two, 9, 9);
        due.is("none is pushed", two.gust(1, 1), 196);
        Due.feed(two, 9, 9, 10);
        due.is("the wind that pushes", two.gust(2, 0), 10);
        due.says("-3: nothing may be FALSE so");
        for (int b = 0; b <= 18; b++) {
            int wind = b;
            told(9, 18, wind).empties("nothing may be false, a wind by " + b, x -> x.gust(1, 0), -3);
        }
        Edges empty = new Edges(due, () -> {
            BellRibbons x = new BellRibbons();
            Due.feed(x, 9, 9);
            return x;
        });
        empty.empties("no ribbons", x -> x.gust(1, 1), -3);
    }

    private static void gustTies() {
        due.says("of all such (a RIBBON and a LENGTH) those with one and the same PICTURE are at most fewest (of like ones the first told one)");
        BellRibbons x = new BellRibbons();
        x.stiff(0, 10);
        x.white(0, 1, 5, 0);
        Due.law(x, "g0(1=1);pl*v(1=1)");
        // by no wind all 98 lean 0; by 9 the lengths lean as 9 times them through 10 does
        for (int k = 0; k < 6; k++) {
            int[] bytes = {9, 9, 9, 9, 9, 9, 9};
            bytes[1 + k] = 18;
            Due.feed(x, bytes);
            due.is("the best one at place " + k, x.gust(6, 0), 18);
            Due.feed(x, bytes);
            due.is("its crowd", x.gust(6, 1), 90);
            bytes[1 + (k + 1) % 6] = 0;
            Due.feed(x, bytes);
            due.is("of 9 and -9 the first told one, place " + k, x.gust(6, 0), k == 5 ? 0 : 18);
        }
        Due.feed(x, 9, 9, 9);
        due.is("all by no wind", x.gust(2, 1), 98);
    }

    private static void fraud() {
        due.says("-2: there is none, no such WINDS; NONE: no such ones, one PERSON twice, it has not so many (the tape stays).");
        Edges six = told(9, 10, 11, 0, 17, 1);
        for (int a : N) {
            for (int b : N) {
                String call = "fraud(" + a + "," + b + ",1,0)";
                if (!areTwo(a, b)) {
                    six.leaves(call, x -> x.fraud(a, b, 1, 0), -1);
                } else if (a + b != 1) {
                    six.empties(call, x -> x.fraud(a, b, 1, 0), -2);
                } else {
                    six.answers(call, x -> x.fraud(a, b, 1, 0) > 0 ? x.count(3) : -1, 0);
                }
            }
        }
        due.says("A FRAUD by the first n bytes of the tape (WINDS and 9; 1 to 6 days; empty then), what 0 n, 1 the RIBBON cut, 2 the one knotted");
        for (int n : N) {
            for (int what : N) {
                String call = "fraud(0,1," + n + "," + what + ")";
                if (within(1, n, 6) && within(0, what, 2)) {
                    int[] want = {9, 0, 1};
                    six.empties(call, x -> x.fraud(0, 1, n, what), want[what]);
                } else {
                    six.leaves(call, x -> x.fraud(0, 1, n, what), -1);
                }
                noTape.leaves(call + " of no bytes", x -> x.fraud(0, 1, n, what), -1);
            }
        }
        due.says("-2: there is none, no such WINDS");
        for (int k = 0; k < 256; k++) {
            int b = k;
            // by wind 9 rod 1 leans -8, as it would not any more
            told(b).empties("a day by " + b, x -> x.fraud(0, 1, 1, 0), b > 17 ? -2 : 9);
            told(9, 9, 9, 9, 9, b).empties("a sixth day by " + b, x -> x.fraud(0, 1, 6, 2), b > 17 ? -2 : 1);
            told(9, b).empties("a second of one by " + b, x -> x.fraud(0, 1, 1, 1), 0);
        }
    }

    private static void fraudLengths() {
        due.says("so that on told days (WINDS) all PICTURES are as they were: the greatest n; of like ones the lowest first, then second RIBBON");
        int[] lengths = {1, 2, 3, 49, 50, 51, 97, 98, 99};
        for (int first : lengths) {
            for (int second : lengths) {
                BellRibbons x = twoWhites(first, second);
                int most = Math.min(first - 1, 99 - second);
                Due.feed(x, 0);
                due.is("from one of " + first + " to one of " + second, x.fraud(6, 7, 1, 0), most > 0 ? most : -2);
            }
        }
        BellRibbons x = new BellRibbons();
        for (int k = 0; k < 6; k++) {
            x.white(0, 0, 10, k % 2);
        }
        Due.feed(x, 0, 18);
        due.is("all alike, the first", x.fraud(1, 0, 2, 1), 1);
        Due.feed(x, 0, 18);
        due.is("all alike, the second", x.fraud(1, 0, 2, 2), 0);
        x.stiff(0, 10);
        x.move(1, 0, 1);
        x.move(3, 0, 1);
        x.move(5, 0, 1);
        // moment 30: cut by 1 it is 29
        Due.feed(x, 9);
        due.is("each would be seen", x.fraud(1, 0, 1, 0), -2);
        Due.law(x, "p5(v=1)");
        // by wind 1 also 60 pushed: held to 9
        Due.feed(x, 10);
        due.is("6 leans by the push as well", x.fraud(1, 0, 1, 0), -2);
        Due.law(x, "p20(v=1)");
        Due.feed(x, 10);
        due.is("120 and 30 is held to 9", x.fraud(1, 0, 1, 0), 9);
        Due.feed(x, 10, 9);
        due.is("on the other day it is seen", x.fraud(1, 0, 2, 0), -2);
        x.seen(0, false);
        Due.feed(x, 10, 9);
        due.is("nobody sees it", x.fraud(1, 0, 2, 0), 9);
    }

    private static void fraudWeights() {
        due.says("n cut from a white RIBBON of the one and knotted to a white one of the other");
        BellRibbons x = new BellRibbons();
        x.stiff(0, 10);
        x.white(0, 1, 20, 0);
        x.white(0, 9, 5, 1);
        x.white(0, 1, 5, 1);
        // moment 70: knotted at arm 9 it would lean otherwise, at arm 1 it stays
        int[] want = {19, 0, 2};
        for (int what = 0; what < 3; what++) {
            Due.feed(x, 9);
            due.is("as much as is cut is knotted, " + what, x.fraud(0, 1, 1, what), want[what]);
        }
        Due.law(x, "g0(1=1);pl*v(a=1)");
        // by wind 1 it is pushed by 25 together, by wind 0 by nothing
        for (int what = 0; what < 3; what++) {
            Due.feed(x, 10, 9);
            due.is("pushed as before, " + what, x.fraud(0, 1, 2, what), want[what]);
        }
        x.fall(2);
        Due.feed(x, 10, 9);
        due.is("20 less 1 is 1 through 10", x.fraud(0, 1, 2, 0), -2);
        x.wind(1);
        x.stiff(0, 3);
        Due.feed(x, 10);
        due.is("6 by 20 to 18", x.fraud(0, 1, 1, 0), 2);
    }

    private static void owes() {
        due.says("How much one PERSON owes another one; NONE: no such ones.");
        for (int a : N) {
            for (int b : N) {
                int want = !areTwo(a, b) ? -1 : a == 0 && b == 1 ? 3 : a == 1 && b == 0 ? 6 : 0;
                edges.leaves("owes(" + a + "," + b + ")", x -> x.owes(a, b), want);
            }
        }
    }

    private static void ring() {
        due.says("-2: there is none; NONE also: no such place.");
        for (int what : N) {
            due.is("ring(" + what + ") of none", new BellRibbons().ring(what), within(-1, what, 8) ? -2 : -1);
        }
        for (int n = 2; n <= 8; n++) {
            due.says("A RING of debts: different PEOPLE (2 to 8), each of whom owes the next one (red RIBBONS that hang), the last one the first");
            BellRibbons x = new BellRibbons();
            for (int k = 0; k < n - 1; k++) {
                x.red(0, 0, 9 + k, 8 - n + k, 9 - n + k);
            }
            due.is("not closed yet by " + n, x.ring(-1), -2);
            x.red(0, 0, 99, 7, 8 - n);
            due.says("THE BEST RING, what NONE how much is CUT, 8 of how many PEOPLE, else the PERSON at place what");
            for (int what : N) {
                int want = what == -1 ? 9 * n : what == 8 ? n : within(0, what, n - 1) ? 8 - n + what : -1;
                due.is("ring(" + what + ") of " + n, x.ring(what), want);
            }
            due.is("nothing is changed", x.count(6) * 100 + x.ribbon(0, 2), 100 * n + 9);
        }
    }

    private static void ringTies() {
        due.says("THE BEST RING: most is CUT; of like ones of fewest PEOPLE; of like ones the least row, the lowest PERSON first.");
        BellRibbons x = new BellRibbons();
        x.red(0, 0, 6, 6, 7);
        x.red(0, 0, 6, 7, 6);
        x.red(0, 0, 4, 0, 1);
        x.red(0, 0, 4, 1, 2);
        x.red(0, 0, 4, 2, 0);
        due.is("fewest people", x.ring(0) * 100 + x.ring(-1), 612);
        x.red(0, 0, 1, 0, 1);
        due.is("one debt alone is more", x.ring(0) * 100 + x.ring(-1), 612);
        x.red(0, 0, 1, 1, 2);
        x.red(0, 0, 1, 2, 0);
        due.is("most is cut", x.ring(0) * 100 + x.ring(-1), 15);
        x.red(0, 0, 5, 1, 0);
        x.red(0, 0, 5, 2, 1);
        x.red(0, 0, 5, 0, 2);
        due.is("of 0 1 2 and 0 2 1 the least row", x.ring(1) * 10 + x.ring(2), 12);
        x.fall(6);
        due.is("what has fallen does not count", x.ring(1) * 10 + x.ring(2), 21);
        for (int n = 3; n <= 8; n++) {
            // two people by 6, and n people by so little that it is just more than 12 together
            BellRibbons y = new BellRibbons();
            y.red(0, 0, 6, 0, 1);
            y.red(0, 0, 6, 1, 0);
            for (int k = 0; k < n; k++) {
                y.red(0, 0, 12 / n + 1, 8 - n + k, k == n - 1 ? 8 - n : 9 - n + k);
            }
            due.is("many small debts of " + n, y.ring(-1), (12 / n + 1) * n);
            due.is("so many people, " + n, y.ring(8), n);
        }
    }

    private static void clear() {
        due.says("CLEARED: how much is CUT.");
        due.is("of none", new BellRibbons().clear(), 0);
        edges.answers("of 3 and 6", x -> x.clear(), 6);
        due.says("the RIBBONS are cut, the lowest first (one cut down to 0 falls, its LENGTH is 0 then)");
        for (int much = 1; much <= 9; much++) {
            BellRibbons x = new BellRibbons();
            x.red(0, 0, 3, 0, 1);
            x.red(0, 0, 4, 0, 1);
            x.red(0, 0, 2, 0, 1);
            x.red(0, 0, much, 1, 0);
            due.is("cut by " + much, x.clear(), 2 * much);
            int[] left = {Math.max(0, 3 - much), Math.max(0, Math.min(4, 7 - much)), Math.min(2, 9 - much), 0};
            for (int i = 0; i < 4; i++) {
                due.is("cut by " + much + ", length of " + i, x.ribbon(i, 2), left[i]);
                due.is("cut by " + much + ", hangs " + i, x.ribbon(i, 6), left[i] > 0 ? 1 : 0);
            }
            due.is("one cut down can't fall again", x.fall(3), false);
            due.is("nor be moved", x.move(3, 0, 1), false);
            due.is("no ring is left", x.ring(-1), -2);
        }
        due.says("the BEST RING, again and again, till there is none");
        BellRibbons x = new BellRibbons();
        for (int a = 0; a < 6; a++) {
            for (int b = 0; b < 6; b++) {
                if (a != b) {
                    x.red(0, 0, 7, a, b);
                }
            }
        }
        due.is("each owes each 7", x.clear(), 30 * 7);
        due.is("nothing hangs any more", x.count(6), 0);
    }

    private static void run() {
        due.says("(PEOPLE, all different; 1 to 8; empty then), limit 0 to 9, what 0 who gets his (bits), 1 how much");
        Edges eight = told(7, 6, 5, 4, 3, 2, 1, 0);
        for (int n : N) {
            for (int k : N) {
                boolean isN = within(1, n, 8);
                runs(eight, n, 9, k, isN && within(0, k, 1) ? k == 0 ? 256 - (1 << 8 - n) : n < 7 ? 0 : n == 7 ? 20 : 30 : -1);
                runs(eight, n, k, 0, !isN || !within(0, k, 9) ? -1 : k < 9 ? 0 : 256 - (1 << 8 - n));
                noTape.leaves("run(" + n + "," + k + ",0) of no bytes", x -> x.run(n, k, 0), -1);
            }
        }
        due.says("-2: no such PEOPLE, one twice; NONE: no such ones, it has not so many (the tape stays).");
        for (int k = 0; k < 256; k++) {
            int b = k;
            told(b).empties("one by " + b, x -> x.run(1, 9, 0), b > 7 ? -2 : 1 << b);
            told(0, 1, 2, 3, 4, 5, 6, b).empties("an eighth by " + b, x -> x.run(8, 9, 0), b == 7 ? 255 : -2);
            told(3, b).empties("a second of one by " + b, x -> x.run(1, 9, 0), 8);
        }
        for (int first = 0; first < 8; first++) {
            for (int second = first + 1; second < 8; second++) {
                int[] people = {0, 1, 2, 3, 4, 5, 6, 7};
                people[second] = first;
                told(people).empties(first + " twice", x -> x.run(8, 9, 1), -2);
            }
        }
    }

    /** The bank of EdgesTest leans 9: by every other limit it has tipped. */
    private static void runs(Edges bank, int n, int limit, int what, int want) {
        String call = "run(" + n + "," + limit + "," + what + ")";
        if (want == -1) {
            bank.leaves(call, x -> x.run(n, limit, what), want);
        } else {
            bank.empties(call, x -> x.run(n, limit, what), want);
        }
    }

    private static void runLimits() {
        due.says("before each minute it is looked: if the LEAN of ROD 0, without sign, is more than told (0 to 9), it has tipped");
        for (int lean = -9; lean <= 9; lean++) {
            for (int limit = 0; limit <= 9; limit++) {
                BellRibbons x = new BellRibbons();
                x.white(0, lean < 0 ? -1 : 1, Math.max(1, Math.abs(lean)), 2);
                x.white(0, 0, 50, 3);
                x.stiff(0, lean == 0 ? 2 : 1);
                boolean isTipped = Math.abs(lean) > limit;
                Due.feed(x, 3, 5, 2);
                due.is("lean " + lean + ", limit " + limit, x.run(3, limit, 0), isTipped ? 0 : 44);
                Due.feed(x, 3, 5, 2);
                due.is("lean " + lean + ", limit " + limit, x.run(3, limit, 1), isTipped ? 0 : 50 + x.ribbon(0, 2));
            }
        }
        due.says("and nobody gets anything any more: who gets his (bits; also who has none); how much together; (nothing is changed)");
        BellRibbons x = new BellRibbons();
        x.white(0, 1, 5, 0);
        x.white(0, -1, 5, 1);
        x.white(0, -1, 5, 2);
        x.white(0, 1, 5, 3);
        int[][] rows = {{0, 3, 1, 2}, {0, 1, 3, 2}, {4, 0, 2, 3}, {0, 3, 4, 5}, {4, 5, 6, 7}, {1, 2, 0, 3}};
        int[] served = {0b1001, 0b1111, 0b11101, 0b1001, 0b11110000, 0b110};
        int[] got = {10, 20, 15, 10, 0, 10};
        for (int k = 0; k < rows.length; k++) {
            Due.feed(x, rows[k]);
            due.is("row " + k + ", who", x.run(4, 5, 0), served[k]);
            Due.feed(x, rows[k]);
            due.is("row " + k + ", how much", x.run(4, 5, 1), got[k]);
        }
        due.is("nothing is changed", x.count(6), 4);
        runBelow();
        Due.feed(x, 0, 3);
        due.is("behind the last minute it is not looked", x.run(2, 5, 0), 0b1001);
        Due.feed(x, 0, 3, 7);
        due.is("who has none gets nothing when it has tipped", x.run(3, 5, 0), 0b1001);
    }

    /** Ribbons of a rod below weigh at the arm of the rod, wherever they hang on it. */
    private static void runBelow() {
        BellRibbons x = new BellRibbons();
        x.rod(0, 3);
        x.rod(1, -9);
        x.white(1, 5, 7, 0);
        x.white(0, -3, 7, 1);
        x.white(2, 9, 7, 2);
        x.white(0, -3, 7, 3);
        x.stiff(0, 5);
        // each is worth 21, 4 through 5
        for (int p = 0; p < 4; p++) {
            Due.feed(x, p, (p + 1) % 4);
            due.is("tipped without " + p, x.run(2, 3, 0), 1 << p);
            Due.feed(x, p, (p + 1) % 4, (p + 2) % 4);
            due.is("level again without the next one, " + p, x.run(3, 4, 1), 21);
            Due.feed(x, p, (p + 2) % 4, (p + 1) % 4);
            due.is("tipped without both, " + p, x.run(3, 4, 1), 14);
        }
    }

    private static void order() {
        due.says("NONE also: no such ones, no such place.");
        for (int people : N) {
            for (int k : N) {
                boolean isOne = within(1, people, 255);
                int size = isOne ? Integer.bitCount(people) : 0;
                if (!isOne || !within(-1, k, size - 1)) {
                    edges.leaves("order(" + people + ",9," + k + ")", x -> x.order(people, 9, k), -1);
                }
                if (!isOne || !within(0, k, 9)) {
                    edges.leaves("order(" + people + "," + k + ",0)", x -> x.order(people, k, 0), -1);
                }
            }
        }
        due.says("THE BEST ORDER of PEOPLE (bits, not empty), what NONE how much, else the PERSON at place what");
        for (int k = 1; k < 256; k++) {
            int people = k;
            int most = (people & 1) * 10 + (people >> 1 & 1) * 20;
            edges.answers("order(" + people + ",9,-1)", x -> x.order(people, 9, -1), most);
            edges.answers("order(" + people + ",0,-1), tipped at first", x -> x.order(people, 0, -1), 0);
            int place = 0;
            for (int p = 0; p < 8; p++) {
                if ((people >> p & 1) != 0) {
                    int at = place;
                    edges.answers("order(" + people + ",9," + at + ")", x -> x.order(people, 9, at), p);
                    edges.answers("order(" + people + ",0," + at + "), tipped", x -> x.order(people, 0, at), p);
                    place++;
                }
            }
        }
    }

    private static void orders(BellRibbons x, int people, int limit, int most, int... row) {
        due.is("how much", x.order(people, limit, -1), most);
        for (int k = 0; k < row.length; k++) {
            due.is("place " + k, x.order(people, limit, k), row[k]);
        }
        due.is("no place " + row.length, x.order(people, limit, row.length), -1);
    }

    private static void orderTies() {
        due.says("by which most LENGTH is got; of like ones the least row");
        BellRibbons x = new BellRibbons();
        x.white(0, 1, 5, 0);
        x.white(0, 1, 5, 1);
        x.white(0, -1, 5, 2);
        x.white(0, -1, 5, 3);
        orders(x, 15, 9, 20, 0, 1, 2, 3);
        // with 0 and 1 gone it leans -10
        orders(x, 15, 5, 20, 0, 2, 1, 3);
        orders(x, 7, 5, 15, 0, 2, 1);
        orders(x, 3, 5, 10, 0, 1);
        orders(x, 15, 4, 5, 0, 1, 2, 3);
        x.white(0, 0, 1, 3);
        orders(x, 15, 4, 6, 3, 0, 1, 2);
        orders(x, 0x8F, 4, 6, 3, 0, 1, 2, 7);
        orders(x, 0x9F, 5, 21, 0, 2, 1, 3, 4, 7);
        x.fall(3);
        // now it leans 5, and 10 when 2 has gone
        orders(x, 15, 5, 16, 0, 1, 2, 3);
        orders(x, 14, 5, 11, 1, 2, 3);
        orders(x, 12, 5, 6, 3, 2);
        orders(x, 15, 4, 0, 0, 1, 2, 3);
    }
}
