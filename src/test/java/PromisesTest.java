/** For each promise of the document: ordinary inputs, the edges that it names, wrong inputs. */
public final class PromisesTest {
    private static final Due due = new Due();
    private static final int NO_ANSWER = -1000000000;
    private static final int MIN = Integer.MIN_VALUE;
    private static final int MAX = Integer.MAX_VALUE;

    private static BellRibbons x;

    public static void main(String[] args) {
        aNewObject();
        rod();
        stiff();
        seen();
        wet();
        white();
        red();
        wind();
        feed();
        law();
        rodIs();
        ribbon();
        balance();
        move();
        fall();
        pay();
        payRefused();
        level();
        levelRefused();
        falseBy();
        suspects();
        gust();
        gustRefused();
        fraud();
        fraudRefused();
        owes();
        ring();
        clear();
        run();
        order();
        seed();
        draw();
        keepAndUndo();
        check();
        count();
        due.end();
    }

    /** A new object, on which the calls that follow are made. */
    private static void fresh() {
        x = new BellRibbons();
    }

    private static void counts(String when, int... want) {
        for (int k = 0; k < want.length; k++) {
            due.is(when + ": count(" + k + ")", x.count(k), want[k]);
        }
    }

    // Promise 1
    private static void aNewObject() {
        fresh();
        due.is("NONE", BellRibbons.NONE, -1);
        counts("1: new", 1, 0, 0, 0, 1, 9, 0);
        int[] rodZero = {0, 0, 0, -1, 0, 1, 1, 0};
        for (int k = 0; k < rodZero.length; k++) {
            due.is("1: rodIs(0, " + k + ")", x.rodIs(0, k), rodZero[k]);
        }
        due.is("1: nothing is kept", x.undo(), false);
        BellRibbons other = new BellRibbons();
        x.rod(0, 1);
        x.wind(3);
        due.is("1: another object is its own", other.count(0) + 100 * other.count(5), 901);
    }

    // Promise 2
    private static void rod() {
        fresh();
        due.is("2: rod(0,9)", x.rod(0, 9), 1);
        due.is("2: rod(1,-9)", x.rod(1, -9), 2);
        due.is("2: on no rod", x.rod(3, 0), -1);
        due.is("2: on itself below 0", x.rod(-1, 0), -1);
        due.is("2: arm 10", x.rod(0, 10), -1);
        due.is("2: arm -10", x.rod(0, -10), -1);
        due.is("2: far off", x.rod(MAX, MIN), -1);
        due.is("2: none of these came", x.count(0), 3);
        for (int k = 3; k < 10; k++) {
            due.is("2: rod " + k, x.rod(k - 1, 0), k);
        }
        due.is("2: an eleventh", x.rod(0, 0), -1);
        due.is("2: ten are there", x.count(0), 10);
    }

    // Promise 3
    private static void stiff() {
        fresh();
        x.white(0, 9, 99, 0);
        due.is("3: 1", x.stiff(0, 1), true);
        due.is("3: 999", x.stiff(0, 999), true);
        due.is("3: again", x.stiff(0, 999), true);
        due.is("3: 0", x.stiff(0, 0), false);
        due.is("3: 1000", x.stiff(0, 1000), false);
        due.is("3: below", x.stiff(0, MIN), false);
        due.is("3: no rod", x.stiff(1, 5), false);
        due.is("3: rod -1", x.stiff(-1, 5), false);
        due.is("3: it is", x.rodIs(0, 5), 999);
        due.is("3: 891 through 999", x.rodIs(0, 2), 0);
        x.stiff(0, 100);
        due.is("3: 891 through 100", x.rodIs(0, 2), 8);
        x.move(0, 0, -9);
        due.is("3: toward 0", x.rodIs(0, 2), -8);
        x.stiff(0, 89);
        due.is("3: held to -9", x.rodIs(0, 2), -9);
    }

    // Promise 4
    private static void seen() {
        fresh();
        x.rod(0, 1);
        due.is("4: it is so", x.seen(0, true), false);
        due.is("4: not seen", x.seen(1, false), true);
        due.is("4: again", x.seen(1, false), false);
        due.is("4: rodIs", x.rodIs(1, 6), 0);
        due.is("4: the other", x.rodIs(0, 6), 1);
        due.is("4: seen again", x.seen(1, true), true);
        due.is("4: no rod", x.seen(2, false), false);
        due.is("4: rod -1", x.seen(-1, false), false);
    }

    // Promise 5
    private static void wet() {
        fresh();
        x.rod(0, 1);
        due.is("5: it is so", x.wet(0, false), false);
        due.is("5: wet", x.wet(1, true), true);
        due.is("5: again", x.wet(1, true), false);
        due.is("5: rodIs", x.rodIs(1, 7), 1);
        due.is("5: the other", x.rodIs(0, 7), 0);
        due.is("5: dry again", x.wet(1, false), true);
        due.is("5: no rod", x.wet(2, true), false);
        due.is("5: rod -1", x.wet(-1, true), false);
    }

    // Promise 6
    private static void white() {
        fresh();
        due.is("6: the first", x.white(0, -9, 1, 0), 0);
        due.is("6: the next", x.white(0, 9, 99, 7), 1);
        due.is("6: no rod", x.white(1, 0, 5, 0), -1);
        due.is("6: rod -1", x.white(-1, 0, 5, 0), -1);
        due.is("6: arm 10", x.white(0, 10, 5, 0), -1);
        due.is("6: arm -10", x.white(0, -10, 5, 0), -1);
        due.is("6: length 0", x.white(0, 0, 0, 0), -1);
        due.is("6: length 100", x.white(0, 0, 100, 0), -1);
        due.is("6: owner 8", x.white(0, 0, 5, 8), -1);
        due.is("6: owner -1", x.white(0, 0, 5, -1), -1);
        due.is("6: two came", x.count(1), 2);
        for (int k = 2; k < 40; k++) {
            due.is("6: ribbon " + k, x.white(0, 0, 5, 0), k);
        }
        due.is("6: a 41st", x.white(0, 0, 5, 0), -1);
        due.is("6: nor a red one", x.red(0, 0, 5, 0, 1), -1);
        x.fall(0);
        due.is("6: a fallen one leaves no room", x.white(0, 0, 5, 0), -1);
    }

    // Promise 7
    private static void red() {
        fresh();
        due.is("7: the first", x.red(0, 9, 99, 0, 7), 0);
        due.is("7: no rod", x.red(1, 0, 5, 0, 1), -1);
        due.is("7: arm 10", x.red(0, 10, 5, 0, 1), -1);
        due.is("7: arm -10", x.red(0, -10, 5, 0, 1), -1);
        due.is("7: length 0", x.red(0, 0, 0, 0, 1), -1);
        due.is("7: length 100", x.red(0, 0, 100, 0, 1), -1);
        due.is("7: owner 8", x.red(0, 0, 5, 8, 1), -1);
        due.is("7: to 8", x.red(0, 0, 5, 0, 8), -1);
        due.is("7: to -1", x.red(0, 0, 5, 0, -1), -1);
        due.is("7: one person twice", x.red(0, 0, 5, 3, 3), -1);
        due.is("7: one came", x.count(1), 1);
        due.is("7: its colour", x.ribbon(0, 3), 1);
        for (int k = 1; k < 40; k++) {
            due.is("7: ribbon " + k, x.red(0, 0, 1, k % 8, (k + 1) % 8), k);
        }
        due.is("7: a 41st", x.red(0, 0, 5, 0, 1), -1);
    }

    // Promise 8
    private static void wind() {
        fresh();
        due.is("8: 9", x.wind(9), true);
        due.is("8: again", x.wind(9), true);
        due.is("8: 10", x.wind(10), false);
        due.is("8: stays", x.count(5), 18);
        due.is("8: -9", x.wind(-9), true);
        due.is("8: -10", x.wind(-10), false);
        due.is("8: it is", x.count(5), 0);
    }

    // Promise 9
    private static void feed() {
        fresh();
        for (int k = 1; k <= 11; k++) {
            due.is("9: feed " + k, x.feed(k, 0, -1, 0, 0), 20 * k);
        }
        due.is("9: one too many", x.feed(0, 0, 0, 0, 0), -1);
        due.is("9: 220 stay", x.count(3), 220);
        fresh();
        x.feed(0x675B6C5D, 0x28313D31, 0x29FFFFFF, 0, 0);
        due.is("9: the highest byte first, one int behind the other", x.law(9), 1);
        x.feed(0x67313233, 0x34352831, 0x3D313131, 0x31302D31, 0x302D3130);
        x.feed(0x29202020, 0, 0, 0, 0);
        due.is("9: one feed behind the other", x.law(21), 1);
    }

    // Promise 10; LawTest has the rest
    private static void law() {
        fresh();
        x.white(0, 1, 5, 0);
        due.is("10: too few bytes", x.law(1), -1);
        due.is("10: two clauses", Due.law(x, "gl*2(l>3);p1(1=1)"), 2);
        due.is("10: counted", x.count(2), 2);
        due.is("10: moment", x.rodIs(0, 1), 11);
        due.is("10: a fault", Due.law(x, "gl*2(l>3"), -1008);
        due.is("10: the text before stays", x.rodIs(0, 1), 11);
        due.is("10: the tape is empty", x.count(3), 0);
    }

    // Promise 11
    private static void rodIs() {
        fresh();
        x.rod(0, 2);
        x.rod(1, -3);
        x.rod(0, -9);
        x.white(2, 4, 10, 0);
        x.white(1, 1, 7, 0);
        x.red(0, -1, 3, 0, 1);
        int[] loads = {20, 17, 10, 0};
        int[] moments = {2 * 17 - 3, -3 * 10 + 7, 40, 0};
        int[] leans = {9, -9, 9, 0};
        int[] on = {-1, 0, 1, 0};
        int[] arms = {0, 2, -3, -9};
        for (int r = 0; r < 4; r++) {
            due.is("11: load " + r, x.rodIs(r, 0), loads[r]);
            due.is("11: moment " + r, x.rodIs(r, 1), moments[r]);
            due.is("11: lean " + r, x.rodIs(r, 2), leans[r]);
            due.is("11: on " + r, x.rodIs(r, 3), on[r]);
            due.is("11: arm " + r, x.rodIs(r, 4), arms[r]);
            due.is("11: stiff " + r, x.rodIs(r, 5), 1);
        }
        x.stiff(1, 7);
        due.is("11: -23 through 7", x.rodIs(1, 2), -3);
        Due.law(x, "p0-100(r=2)");
        due.is("11: the push is felt by its own rod", x.rodIs(2, 1), -60);
        due.is("11: and by no other", x.rodIs(1, 1), -23);
        x.fall(0);
        due.is("11: a fallen one has no load", x.rodIs(1, 0), 7);
        due.is("11: nor a push", x.rodIs(2, 1), 0);
        due.is("11: what 8", x.rodIs(0, 8), NO_ANSWER);
        due.is("11: what -1", x.rodIs(0, -1), NO_ANSWER);
        due.is("11: rod 4", x.rodIs(4, 0), NO_ANSWER);
        due.is("11: rod -1", x.rodIs(-1, 3), NO_ANSWER);
    }

    // Promise 12
    private static void ribbon() {
        fresh();
        x.rod(0, 1);
        x.white(1, -5, 33, 6);
        x.red(0, 4, 12, 2, 5);
        int[] first = {1, -5, 33, 0, 6, -1, 1, 33, 0};
        int[] second = {0, 4, 12, 1, 2, 5, 1, 12, 0};
        for (int k = 0; k < 9; k++) {
            due.is("12: ribbon(0, " + k + ")", x.ribbon(0, k), first[k]);
            due.is("12: ribbon(1, " + k + ")", x.ribbon(1, k), second[k]);
        }
        Due.law(x, "gl+o(c=0);pv*2(c=0)");
        x.wind(4);
        x.fall(0);
        due.is("12: fallen", x.ribbon(0, 6), 0);
        due.is("12: its length stays", x.ribbon(0, 2), 33);
        due.is("12: as heavy as if it hung", x.ribbon(0, 7), 39);
        due.is("12: pushed as if it hung", x.ribbon(0, 8), 8);
        due.is("12: what 9", x.ribbon(0, 9), NO_ANSWER);
        due.is("12: what -1", x.ribbon(0, -1), NO_ANSWER);
        due.is("12: ribbon 2", x.ribbon(2, 0), NO_ANSWER);
        due.is("12: ribbon -1", x.ribbon(-1, 0), NO_ANSWER);
    }

    // Promise 13
    private static void balance() {
        fresh();
        x.white(0, 0, 10, 0);
        x.white(0, 0, 5, 0);
        x.red(0, 0, 20, 0, 1);
        x.red(0, 0, 3, 2, 0);
        due.is("13: 0", x.balance(0), -2);
        due.is("13: 1", x.balance(1), 20);
        due.is("13: 2", x.balance(2), -3);
        due.is("13: 7", x.balance(7), 0);
        x.fall(2);
        due.is("13: what hangs alone", x.balance(0), 18);
        due.is("13: no person 8", x.balance(8), NO_ANSWER);
        due.is("13: no person -1", x.balance(-1), NO_ANSWER);
    }

    // Promise 14
    private static void move() {
        fresh();
        x.rod(0, 5);
        x.white(0, 1, 10, 0);
        due.is("14: moved", x.move(0, 1, -9), true);
        due.is("14: its rod", x.ribbon(0, 0), 1);
        due.is("14: its arm", x.ribbon(0, 1), -9);
        due.is("14: felt", x.rodIs(0, 1), 50);
        due.is("14: no rod", x.move(0, 2, 0), false);
        due.is("14: arm 10", x.move(0, 0, 10), false);
        due.is("14: arm -10", x.move(0, 0, -10), false);
        due.is("14: no ribbon", x.move(1, 0, 0), false);
        due.is("14: ribbon -1", x.move(-1, 0, 0), false);
        due.is("14: nothing changed", x.rodIs(0, 1), 50);
        x.fall(0);
        due.is("14: fallen", x.move(0, 0, 0), false);
    }

    // Promise 15
    private static void fall() {
        fresh();
        x.white(0, 3, 10, 0);
        due.is("15: no ribbon", x.fall(1), false);
        due.is("15: ribbon -1", x.fall(-1), false);
        due.is("15: it falls", x.fall(0), true);
        due.is("15: it has", x.fall(0), false);
        due.is("15: no moment", x.rodIs(0, 1), 0);
        due.is("15: still a ribbon", x.count(1) * 10 + x.count(6), 10);
    }

    private static void pays(String name, int a, int b, int n, int... want) {
        for (int what = -1; what <= 1; what++) {
            due.is("16: " + name + " what " + what, x.pay(a, b, n, what), want[what + 1]);
        }
    }

    // Promise 16
    private static void pay() {
        fresh();
        x.rod(0, 0);
        x.white(0, 3, 5, 0);
        x.white(1, 1, 5, 0);
        x.white(0, -3, 5, 1);
        x.white(1, 1, 5, 1);
        x.stiff(0, 2);
        x.stiff(1, 5);
        // moments 0 and 10; only from 1 to 3 none leans otherwise
        pays("fewest lean otherwise", 0, 1, 4, 0, 1, 3);
        due.is("16: nothing is done", x.ribbon(1, 2), 5);
        due.is("16: done", x.pay(0, 1, 4, 2), 0);
        due.is("16: cut", x.ribbon(1, 2), 1);
        due.is("16: knotted", x.ribbon(3, 2), 9);
        due.is("16: others stay", x.ribbon(0, 2) * 10 + x.ribbon(2, 2), 55);
        pays("one of 1 cannot be cut", 0, 1, 1, 1, 0, 2);
        pays("one of 5 cannot be cut by 5", 0, 1, 5, -2, -2, -2);
        fresh();
        for (int k = 0; k < 4; k++) {
            x.white(0, 0, 50, k % 2);
        }
        pays("of like ones the lowest", 0, 1, 49, 0, 0, 1);
        pays("of like ones the lowest", 1, 0, 49, 0, 1, 0);
        pays("50 is too much", 0, 1, 50, -2, -2, -2);
        x.fall(1);
        pays("a fallen one takes nothing", 0, 1, 1, 0, 0, 3);
        x.fall(0);
        pays("a fallen one gives nothing", 0, 1, 1, 0, 2, 3);
        fresh();
        x.white(0, 0, 99, 0);
        x.white(0, 0, 1, 1);
        x.red(0, 0, 50, 1, 0);
        pays("98", 0, 1, 98, 0, 0, 1);
        pays("a red one gives nothing", 1, 0, 1, -2, -2, -2);
        x.seen(0, false);
        x.move(0, 0, 1);
        pays("rods that are not seen count", 0, 1, 98, 1, 0, 1);
        Due.law(x, "g7(1=1)");
        pays("by the law", 0, 1, 98, 0, 0, 1);
        fresh();
        x.rod(0, 5);
        x.rod(1, -1);
        x.white(2, 0, 3, 0);
        x.white(0, 5, 3, 1);
        x.white(2, 0, 3, 1);
        x.stiff(0, 10);
        x.stiff(1, 3);
        // moments 45, -6 and 0: cut by 1 and knotted at rod 0 it is 45 still, but -5
        pays("the rods above feel it", 0, 1, 1, 0, 0, 2);
        x.fall(2);
        pays("the rods above feel it", 0, 1, 1, 1, 0, 1);
    }

    private static void payRefused() {
        fresh();
        x.white(0, 0, 99, 0);
        x.white(0, 0, 1, 1);
        due.is("16: n 0", x.pay(0, 1, 0, -1), -3);
        due.is("16: n 99", x.pay(0, 1, 99, -1), -3);
        due.is("16: what 3", x.pay(0, 1, 1, 3), -3);
        due.is("16: what -2", x.pay(0, 1, 1, -2), -3);
        due.is("16: person 8", x.pay(8, 1, 1, -1), -3);
        due.is("16: person -1", x.pay(0, -1, 1, -1), -3);
        due.is("16: one twice", x.pay(0, 0, 1, -1), -3);
        due.is("16: nobody has any", x.pay(2, 3, 1, -1), -2);
        due.is("16: done in vain", x.pay(1, 0, 1, 2), -2);
        due.is("16: nothing changed", x.ribbon(0, 2), 99);
    }

    private static int levelBy(int n, int what, int... bytes) {
        Due.feed(x, bytes);
        int answer = x.level(n, what);
        due.is("17: the tape is empty", x.count(3), 0);
        return answer;
    }

    // Promise 17
    private static void level() {
        fresh();
        x.white(0, 9, 4, 0);
        x.white(0, 9, 6, 0);
        int[] straight = {0, 0, 3 + 9, 1, 0, -2 + 9};
        int[] crossed = {1, 0, 3 + 9, 0, 0, -2 + 9};
        due.is("17: sum", levelBy(2, -1, straight), 0);
        due.is("17: place of the first", levelBy(2, 0, straight), 0);
        due.is("17: place of the second", levelBy(2, 1, straight), 1);
        due.is("17: crossed", levelBy(2, -1, crossed), 0);
        due.is("17: the first told one", levelBy(2, 0, crossed), 1);
        due.is("17: the second told one", levelBy(2, 1, crossed), 0);
        due.is("17: nothing is done", x.ribbon(0, 1), 9);
        due.is("17: done", levelBy(2, 6, crossed), 0);
        due.is("17: 0 hangs at 3", x.ribbon(0, 1), 3);
        due.is("17: 1 hangs at -2", x.ribbon(1, 1), -2);
        fresh();
        x.rod(0, 3);
        x.rod(1, 0);
        x.white(2, 0, 2, 0);
        x.white(0, -3, 2, 0);
        due.is("17: the rods above feel it", levelBy(1, -1, 0, 0, 9), 6);
        due.is("17: where it is", levelBy(1, -1, 0, 2, 9), 0);
        fresh();
        x.rod(0, 0);
        for (int k = 0; k < 6; k++) {
            x.red(0, 0, 5, k, 7);
        }
        int[] six = new int[18];
        for (int k = 0; k < 6; k++) {
            six[3 * k] = 5 - k;
            six[3 * k + 1] = k % 2;
            six[3 * k + 2] = 9 + k / 2;
        }
        for (int k = 0; k < 6; k++) {
            due.is("17: of like ones the least row " + k, levelBy(6, k, six), k);
        }
        due.is("17: both rods lean", levelBy(6, -1, six), 18);
        x.seen(0, false);
        x.seen(1, false);
        due.is("17: seen or not", levelBy(6, 6, six), 18);
        due.is("17: the first told one hangs first", x.ribbon(5, 0) * 10 + x.ribbon(5, 1), 0);
        due.is("17: the last told one hangs last", x.ribbon(0, 0) * 10 + x.ribbon(0, 1), 12);
        Due.law(x, "g0(r=1);p7(w=1)");
        x.wet(1, true);
        due.is("17: the law by the place", levelBy(1, -1, 3, 1, 18), 9 + 9);
        x.stiff(1, 100);
        due.is("17: one ribbon at a place", levelBy(1, 0, 3, 1, 18), 0);
    }

    private static void levelRefused() {
        fresh();
        x.white(0, 1, 4, 0);
        x.white(0, 2, 6, 0);
        due.is("17: no ribbon", levelBy(1, -1, 2, 0, 9), -2);
        due.is("17: no rod", levelBy(1, -1, 0, 1, 9), -2);
        due.is("17: no arm", levelBy(1, -1, 0, 0, 19), -2);
        due.is("17: one twice", levelBy(2, -1, 0, 0, 9, 0, 0, 8), -2);
        due.is("17: a place twice", levelBy(2, -1, 0, 0, 9, 1, 0, 9), -2);
        x.fall(1);
        due.is("17: one has fallen", levelBy(2, 6, 0, 0, 9, 1, 0, 8), -2);
        due.is("17: nothing changed", x.ribbon(0, 1), 1);
        Due.feed(x, 0, 0, 9);
        due.is("17: n 0", x.level(0, -1), -3);
        due.is("17: n 7", x.level(7, -1), -3);
        due.is("17: n far off", x.level(MAX, -1), -3);
        due.is("17: what 7", x.level(1, 7), -3);
        due.is("17: what -2", x.level(1, -2), -3);
        due.is("17: what 1 of one", x.level(1, 1), -3);
        due.is("17: n below", x.level(MIN, MIN), -3);
        due.is("17: the tape stays", x.count(3), 20);
        due.is("17: 21 bytes", x.level(1, 0), 0);
        due.is("17: none", x.level(1, 0), -3);
    }

    private static int falseOf(int i, int... bytes) {
        Due.feed(x, bytes);
        int answer = x.falseBy(i);
        due.is("18: the tape is empty", x.count(3), 0);
        return answer;
    }

    // Promise 18
    private static void falseBy() {
        fresh();
        x.rod(0, 1);
        x.stiff(0, 10);
        x.white(0, 1, 20, 0);
        x.white(1, 1, 5, 0);
        // moments 25 and 5: leans 2 and 5
        due.is("18: 15 to 24 but 20", falseOf(0, 11, 14), 9);
        due.is("18: the other rod would be another", falseOf(1, 11, 14), 0);
        due.is("18: at 0 the rod below stays", falseOf(0, 9, 14), 4);
        due.is("18: 9 on, held", falseOf(1, 11, 18), 1);
        due.is("18: a lean that can't be", falseOf(0, 0, 14), 0);
        due.is("18: no such lean", falseOf(0, 19, 14), -2);
        due.is("18: no such second lean", falseOf(0, 11, 255), -2);
        x.seen(1, false);
        due.is("18: what is not seen", falseOf(1, 11), 8);
        x.seen(0, false);
        due.is("18: nothing is seen, no byte is asked", x.falseBy(0), 98);
        x.seen(0, true);
        due.is("18: no byte is there", x.falseBy(0), -1);
        Due.feed(x, 11);
        due.is("18: no ribbon", x.falseBy(2), -1);
        due.is("18: ribbon -1", x.falseBy(-1), -1);
        due.is("18: the tape stays", x.count(3), 20);
        x.fall(1);
        due.is("18: one that has fallen", x.falseBy(1), 0);
        due.is("18: empty then", x.count(3), 0);
        due.is("18: its length stays", x.ribbon(0, 2), 20);
        Due.law(x, "g5(l>30);pv*l(l<10)");
        x.wind(2);
        due.is("18: by law and wind", falseOf(0, 9), 69 + 3);
    }

    private static long suspectsBy(int... bytes) {
        Due.feed(x, bytes);
        long answer = x.suspects();
        due.is("19: the tape is empty", x.count(3), 0);
        return answer;
    }

    // Promise 19
    private static void suspects() {
        fresh();
        x.rod(0, 1);
        x.stiff(0, 10);
        x.white(0, 1, 20, 0);
        x.white(1, 1, 5, 0);
        x.red(1, 0, 5, 0, 1);
        x.red(0, 0, 5, 0, 1);
        due.is("19: who may be false", suspectsBy(12, 14), 0b1101);
        due.is("19: one below", suspectsBy(12, 15), 0b0010);
        due.is("19: nobody", suspectsBy(0, 0), 0);
        due.is("19: no such lean", suspectsBy(12, 19), -2);
        x.fall(0);
        x.fall(3);
        due.is("19: fallen ones are not", suspectsBy(10, 14), 0b100);
        due.is("19: too few bytes", x.suspects(), -1);
        x.seen(0, false);
        x.seen(1, false);
        due.is("19: nothing is seen", x.suspects(), 0b110);
        fresh();
        for (int k = 0; k < 40; k++) {
            x.white(0, 0, 5, 0);
        }
        due.is("19: forty", suspectsBy(9), (1L << 40) - 1);
        due.is("19: none of forty", suspectsBy(10), 0);
        fresh();
        x.white(0, 1, 5, 0);
        Due.law(x, "g2(l<2);g7(l<99);g4(1=1)");
        due.is("19: by the length 99 alone", suspectsBy(13), 1);
        due.is("19: by the length 1 alone", suspectsBy(11), 1);
        due.is("19: by no length", suspectsBy(12), 0);
    }

    private static int gustBy(int n, int what, int... bytes) {
        Due.feed(x, bytes);
        int answer = x.gust(n, what);
        due.is("20: the tape is empty", x.count(3), 0);
        return answer;
    }

    // Promise 20
    private static void gust() {
        fresh();
        x.stiff(0, 10);
        x.white(0, 1, 5, 0);
        Due.law(x, "pl*v(1=1)");
        // lean 0 by lengths 1 to 9 but 5; by wind 9 each of them leans by itself
        due.is("20: by no wind all are alike", gustBy(1, 1, 9, 9), 8);
        due.is("20: by 9 none", gustBy(1, 1, 9, 18), 1);
        due.is("20: the best one", gustBy(3, 0, 9, 9, 10, 18), 18);
        due.is("20: its crowd", gustBy(3, 1, 9, 9, 10, 18), 1);
        // by wind 1 moments 2, 4 to 8 and 12 to 18 by twos
        due.is("20: by 1 four lean 0 and four lean 1", gustBy(1, 1, 9, 10), 4);
        due.is("20: of like ones the first", gustBy(3, 0, 9, 10, 10, 9), 10);
        due.is("20: of like ones the first", gustBy(2, 0, 9, 18, 17), 18);
        due.is("20: of like winds the first", gustBy(3, 0, 9, 8, 7, 9), 8);
        due.is("20: of like winds the first", gustBy(3, 0, 9, 9, 7, 8), 9);
        due.is("20: the wind stays", x.count(5), 9);
        x.wind(9);
        // moments are ten times the length now: lean 3 by 3 alone
        due.is("20: one case", gustBy(2, 0, 12, 9, 18), 9);
        due.is("20: lean 9 by 9 and all above", gustBy(1, 1, 18, 18), 91);
        due.is("20: lean 9 by the other wind", gustBy(2, 1, 18, 18, 9), 10);
        // by wind 5 the lengths 1 to 9 but 5 lean 0, 1, 1, 2, 3, 4, 4, 5; by 9 each otherwise
        x.wind(0);
        due.is("20: two alike, then none", gustBy(2, 0, 9, 14, 18), 18);
        due.is("20: two alike are the crowd", gustBy(2, 1, 9, 14, 14), 2);
        x.wind(9);
        x.rod(0, 1);
        x.white(1, 0, 5, 0);
        x.seen(0, false);
        due.is("20: all of the one, whatever the other", gustBy(6, 1, 18, 9, 9, 9, 9, 9, 9), 98 + 98);
    }

    private static void gustRefused() {
        fresh();
        x.stiff(0, 10);
        x.white(0, 1, 5, 0);
        due.is("20: nothing may be false", gustBy(1, 0, 8, 9), -3);
        due.is("20: no such lean", gustBy(1, 0, 19, 9), -2);
        due.is("20: no such wind", gustBy(2, 0, 9, 9, 19), -2);
        Due.feed(x, 9, 9);
        due.is("20: n 0", x.gust(0, 0), -1);
        due.is("20: n 7", x.gust(7, 0), -1);
        due.is("20: what 2", x.gust(1, 2), -1);
        due.is("20: what -1", x.gust(1, -1), -1);
        due.is("20: the tape stays", x.count(3), 20);
        due.is("20: asked", x.gust(1, 0), 9);
        due.is("20: too few bytes", x.gust(1, 0), -1);
        x.fall(0);
        due.is("20: nothing hangs", gustBy(1, 0, 9, 9), -3);
    }

    private static int fraudBy(int a, int b, int what, int... winds) {
        Due.feed(x, winds);
        int answer = x.fraud(a, b, winds.length, what);
        due.is("21: the tape is empty", x.count(3), 0);
        return answer;
    }

    // Promise 21
    private static void fraud() {
        fresh();
        x.stiff(0, 10);
        x.white(0, 1, 20, 0);
        x.white(0, 1, 40, 0);
        x.white(0, 0, 70, 1);
        x.white(0, 1, 80, 1);
        // moment 140: held to 9 down to 90
        due.is("21: n", fraudBy(0, 1, 0, 9), 29);
        due.is("21: the one cut", fraudBy(0, 1, 1, 9), 1);
        due.is("21: the one knotted", fraudBy(0, 1, 2, 9), 2);
        due.is("21: back again", fraudBy(1, 0, 0, 9), 79);
        due.is("21: of like ones the lowest", fraudBy(1, 0, 1, 9) * 10 + fraudBy(1, 0, 2, 9), 30);
        Due.law(x, "p0-l*10(v=1&a=1)");
        due.is("21: on another day", fraudBy(0, 1, 0, 10), 29);
        due.is("21: the days together", fraudBy(0, 1, 0, 10, 9), 29);
        Due.law(x, "p0-41(v=1);p0-39(v=2);p0(1=1)");
        x.fall(2);
        due.is("21: one pair", fraudBy(0, 1, 0, 9), 19);
        due.is("21: nothing is done", x.ribbon(1, 2) * 100 + x.ribbon(3, 2), 4080);
        x.seen(0, false);
        x.move(0, 0, 9);
        due.is("21: nobody sees it", fraudBy(0, 1, 0, 9, 10, 11, 12, 13, 14), 19);
        fresh();
        x.rod(0, 1);
        x.white(1, 1, 5, 0);
        x.white(1, 0, 5, 1);
        x.seen(1, false);
        due.is("21: only what is seen", fraudBy(0, 1, 0, 9), 4);
        x.seen(1, true);
        due.is("21: it is seen", fraudBy(0, 1, 0, 9), -2);
        fresh();
        x.white(0, 0, 99, 0);
        x.white(0, 0, 1, 1);
        due.is("21: 98", fraudBy(0, 1, 0, 18), 98);
        due.is("21: the wind stays", x.count(5), 9);
    }

    private static void fraudRefused() {
        fresh();
        x.white(0, 1, 2, 0);
        x.white(0, -1, 3, 1);
        x.red(0, 0, 9, 2, 1);
        due.is("21: it would be seen", fraudBy(0, 1, 0, 9), -2);
        due.is("21: nobody has any", fraudBy(0, 3, 0, 9), -2);
        due.is("21: a red one", fraudBy(2, 1, 0, 9), -2);
        due.is("21: no such wind", fraudBy(0, 1, 0, 9, 19), -2);
        Due.feed(x, 9);
        due.is("21: n 0", x.fraud(0, 1, 0, 0), -1);
        due.is("21: n 7", x.fraud(0, 1, 7, 0), -1);
        due.is("21: what 3", x.fraud(0, 1, 1, 3), -1);
        due.is("21: what -1", x.fraud(0, 1, 1, -1), -1);
        due.is("21: one twice", x.fraud(1, 1, 1, 0), -1);
        due.is("21: person 8", x.fraud(0, 8, 1, 0), -1);
        due.is("21: person -1", x.fraud(-1, 0, 1, 0), -1);
        due.is("21: the tape stays", x.count(3), 20);
        x.move(0, 0, 0);
        x.move(1, 0, 0);
        due.is("21: unseen", x.fraud(0, 1, 1, 0), 1);
        due.is("21: too few bytes", x.fraud(0, 1, 1, 0), -1);
    }

    // Promise 22
    private static void owes() {
        fresh();
        x.red(0, 0, 5, 0, 1);
        x.red(0, 0, 6, 0, 1);
        x.red(0, 0, 7, 1, 0);
        x.red(0, 0, 8, 0, 2);
        x.white(0, 0, 9, 0);
        due.is("22: together", x.owes(0, 1), 11);
        due.is("22: the other way", x.owes(1, 0), 7);
        due.is("22: nothing", x.owes(2, 0), 0);
        for (int p = 0; p < 8; p++) {
            due.is("22: himself", x.owes(p, p), -1);
        }
        x.fall(0);
        due.is("22: what hangs alone", x.owes(0, 1), 6);
        due.is("22: person 8", x.owes(0, 8), -1);
        due.is("22: person -1", x.owes(-1, 0), -1);
        due.is("22: person 8 twice", x.owes(8, 8), -1);
    }

    private static void rings(String name, int cut, int... people) {
        due.is("23: " + name + ": cut", x.ring(-1), cut);
        due.is("23: " + name + ": people", x.ring(8), people.length);
        for (int k = 0; k < 8; k++) {
            due.is("23: " + name + ": place " + k, x.ring(k), k < people.length ? people[k] : -1);
        }
        due.is("23: " + name + ": place 9", x.ring(9), -1);
        due.is("23: " + name + ": place -2", x.ring(-2), -1);
    }

    // Promise 23
    private static void ring() {
        fresh();
        due.is("23: no debts", x.ring(-1), -2);
        due.is("23: no debts, place 0", x.ring(0), -2);
        due.is("23: no debts, people", x.ring(8), -2);
        due.is("23: no debts, place 7", x.ring(7), -2);
        due.is("23: no debts, place 9", x.ring(9), -1);
        due.is("23: no debts, place -2", x.ring(-2), -1);
        due.is("23: no debts, the highest place", x.ring(Integer.MAX_VALUE), -1);
        due.is("23: no debts, the lowest place", x.ring(Integer.MIN_VALUE), -1);
        x.red(0, 0, 5, 5, 3);
        x.red(0, 0, 5, 3, 7);
        due.is("23: no ring yet", x.ring(-1), -2);
        x.red(0, 0, 2, 7, 5);
        rings("the lowest first", 6, 3, 7, 5);
        x.red(0, 0, 3, 3, 5);
        rings("of like ones fewest people", 6, 3, 5);
        x.red(0, 0, 3, 1, 6);
        x.red(0, 0, 99, 6, 1);
        rings("of like ones the least row", 6, 1, 6);
        x.red(0, 0, 1, 7, 5);
        rings("most is cut, sums of ribbons", 9, 3, 7, 5);
        x.fall(1);
        rings("what hangs alone", 6, 1, 6);
        fresh();
        for (int k = 0; k < 3; k++) {
            x.red(0, 0, 2, k, (k + 1) % 3);
        }
        x.red(0, 0, 3, 4, 3);
        x.red(0, 0, 3, 3, 4);
        rings("fewest people before the least row", 6, 3, 4);
        fresh();
        for (int k = 0; k < 8; k++) {
            x.red(0, 0, 99, k, (k + 3) % 8);
        }
        rings("eight people", 792, 0, 3, 6, 1, 4, 7, 2, 5);
        x.wind(5);
        x.white(0, 0, 50, 0);
        rings("white ones do not count", 792, 0, 3, 6, 1, 4, 7, 2, 5);
        fresh();
        x.red(0, 0, 1, 0, 1);
        x.red(0, 0, 9, 1, 0);
        rings("a debt of 1", 2, 0, 1);
        x.red(0, 0, 3, 0, 1);
        rings("a debt that has grown", 8, 0, 1);
        x.fall(2);
        rings("a debt that is less", 2, 0, 1);
    }

    // Promise 24
    private static void clear() {
        fresh();
        due.is("24: nothing", x.clear(), 0);
        x.red(0, 1, 4, 0, 1);
        x.red(0, 2, 5, 0, 1);
        x.red(0, 3, 6, 1, 2);
        x.red(0, 4, 9, 2, 0);
        x.red(0, 5, 2, 1, 0);
        x.red(0, 5, 7, 2, 3);
        // first 0 1 2 by 6, then 0 1 by 2
        due.is("24: cut", x.clear(), 18 + 4);
        int[] lengths = {0, 1, 0, 3, 0, 7};
        int[] hang = {0, 1, 0, 1, 0, 1};
        for (int k = 0; k < 6; k++) {
            due.is("24: length " + k, x.ribbon(k, 2), lengths[k]);
            due.is("24: hangs " + k, x.ribbon(k, 6), hang[k]);
        }
        due.is("24: moment", x.rodIs(0, 1), 2 + 12 + 35);
        due.is("24: none is left", x.ring(-1), -2);
        due.is("24: again", x.clear(), 0);
        due.is("24: a fallen one weighs as its length", x.ribbon(0, 7), 0);
        fresh();
        x.red(0, 0, 5, 0, 1);
        x.red(0, 0, 7, 1, 0);
        due.is("24: the lesser debt is gone", x.clear(), 10);
        due.is("24: the rest of the other", x.owes(1, 0) * 10 + x.owes(0, 1), 20);
        x.red(0, 0, 1, 0, 1);
        due.is("24: cleared by 1", x.clear(), 2);
        due.is("24: what is left", x.owes(1, 0), 1);
    }

    private static int runBy(int limit, int what, int... people) {
        Due.feed(x, people);
        int answer = x.run(people.length, limit, what);
        due.is("25: the tape is empty", x.count(3), 0);
        return answer;
    }

    // Promise 25
    private static void run() {
        fresh();
        x.rod(0, 2);
        x.rod(1, 7);
        x.white(0, 1, 6, 0);
        x.white(2, 9, 2, 1);
        x.white(0, -3, 3, 2);
        x.white(0, 0, 9, 1);
        x.red(0, 1, 1, 2, 0);
        // moment of rod 0: 6 + 2*2 - 9 + 1 = 2
        due.is("25: moment", x.rodIs(0, 1), 2);
        due.is("25: all", runBy(9, 0, 0, 1, 2), 7);
        due.is("25: all they have", runBy(9, 1, 0, 1, 2), 20);
        due.is("25: it tips behind the first", runBy(3, 0, 0, 1, 2), 1);
        due.is("25: he gets his", runBy(3, 1, 0, 1, 2), 6);
        due.is("25: more than told is asked", runBy(4, 0, 0, 1), 3);
        due.is("25: both ribbons, on whatever rod", runBy(4, 1, 1, 0), 17);
        due.is("25: tipped at first", runBy(1, 0, 1, 0), 0);
        due.is("25: who has none", runBy(2, 0, 7, 6, 5), 0xE0);
        due.is("25: who has none gets none", runBy(2, 1, 7, 6, 5), 0);
        due.is("25: eight", runBy(9, 0, 7, 6, 5, 4, 3, 2, 1, 0), 255);
        due.is("25: nothing is changed", x.count(6) * 10 + x.rodIs(0, 1), 52);
        due.is("25: no such person", runBy(9, 0, 0, 8), -2);
        due.is("25: one twice", runBy(9, 0, 0, 1, 0), -2);
        Due.feed(x, 1, 0);
        due.is("25: n 0", x.run(0, 5, 0), -1);
        due.is("25: n 9", x.run(9, 5, 0), -1);
        due.is("25: limit -1", x.run(1, -1, 0), -1);
        due.is("25: limit 10", x.run(1, 10, 0), -1);
        due.is("25: what 2", x.run(1, 5, 2), -1);
        due.is("25: what -1", x.run(1, 5, -1), -1);
        due.is("25: the tape stays", x.count(3), 20);
        due.is("25: one of them", x.run(1, 5, 0), 2);
        due.is("25: too few bytes", x.run(1, 5, 0), -1);
        x.fall(1);
        due.is("25: a fallen one is not taken", runBy(9, 1, 1), 9);
        x.stiff(0, 5);
        due.is("25: by the lean, not the moment", runBy(0, 0, 1), 2);
        fresh();
        x.stiff(0, 100);
        x.white(0, 0, 6, 0);
        x.white(0, 0, 7, 1);
        Due.law(x, "p100(o=0)");
        due.is("25: the push goes with it", runBy(1, 0, 0, 1), 3);
        due.is("25: it is pushed over", runBy(0, 0, 0, 1), 0);
        x.rod(0, 1);
        x.move(0, 1, 0);
        due.is("25: pushed on another rod", runBy(0, 0, 1, 0), 3);
    }

    private static void orders(String name, int people, int limit, int most, int... row) {
        due.is("26: " + name + ": how much", x.order(people, limit, -1), most);
        for (int k = 0; k < row.length; k++) {
            due.is("26: " + name + ": place " + k, x.order(people, limit, k), row[k]);
        }
        due.is("26: " + name + ": no such place", x.order(people, limit, row.length), -1);
    }

    // Promise 26
    private static void order() {
        fresh();
        x.white(0, 3, 2, 0);
        x.white(0, -3, 2, 1);
        x.white(0, 1, 4, 2);
        x.white(0, -1, 4, 3);
        orders("all is got", 15, 6, 12, 0, 1, 2, 3);
        orders("by the limit 4", 15, 4, 12, 2, 1, 0, 3);
        orders("by the limit 3", 15, 3, 4, 2, 0, 1, 3);
        orders("of two", 3, 3, 2, 0, 1);
        orders("of one", 128, 0, 0, 7);
        x.fall(0);
        orders("tipped at first", 14, 5, 0, 1, 2, 3);
        x.white(0, 3, 2, 4);
        orders("of others", 0x1E, 6, 12, 1, 2, 3, 4);
        due.is("26: nobody", x.order(0, 5, -1), -1);
        due.is("26: more than eight", x.order(256, 5, -1), -1);
        due.is("26: below", x.order(-1, 5, -1), -1);
        due.is("26: limit -1", x.order(1, -1, -1), -1);
        due.is("26: limit 10", x.order(1, 10, -1), -1);
        due.is("26: what -2", x.order(1, 5, -2), -1);
        due.is("26: what 1 of one", x.order(1, 5, 1), -1);
        due.is("26: nothing is changed", x.count(6), 4);
        orders("all eight", 255, 9, 12, 0, 1, 2, 3, 4, 5, 6, 7);
        fresh();
        x.white(0, 1, 5, 0);
        x.white(0, 1, 6, 1);
        x.white(0, 0, 5, 2);
        x.white(0, -1, 6, 3);
        orders("tipped stays tipped", 15, 0, 0, 0, 1, 2, 3);
    }

    // Promise 27
    private static void seed() {
        fresh();
        due.is("27: 65535", x.seed(65535), true);
        due.is("27: X, too", x.count(4), 65535);
        due.is("27: 65536", x.seed(65536), false);
        due.is("27: -1", x.seed(-1), false);
        due.is("27: it stays", x.count(4), 65535);
        due.is("27: 0", x.seed(0), true);
        x.draw(1);
        due.is("27: X by 0", x.count(4), 13849);
    }

    // Promise 28
    private static void draw() {
        fresh();
        x.draw(1);
        // 25173 + 13849 = 39022 = 19 * 2053 + 15
        due.is("28: X", x.count(4), 39022);
        due.is("28: the wind and 9", x.count(5), 15);
        fresh();
        x.white(0, 0, 10, 0);
        Due.law(x, "pv(1=1)");
        int leaning = 0;
        long number = 1;
        for (int k = 0; k < 60; k++) {
            number = (25173 * number + 13849) % 65536;
            leaning += number % 19 == 9 ? 0 : 1;
        }
        due.is("28: sixty days", x.draw(60), leaning);
        due.is("28: X behind them", x.count(4), number);
        due.is("28: the wind behind them", x.count(5), number % 19);
        x.seen(0, false);
        due.is("28: nobody sees it", x.draw(60), 0);
        x.rod(0, 1);
        x.white(1, 1, 1, 0);
        due.is("28: some rod that is seen", x.draw(5) > 0, true);
        long before = x.count(4);
        due.is("28: n 0", x.draw(0), -1);
        due.is("28: n 61", x.draw(61), -1);
        due.is("28: n -1", x.draw(-1), -1);
        due.is("28: X stays", x.count(4), before);
    }

    // Promises 29 and 30
    private static void keepAndUndo() {
        fresh();
        due.is("30: none was kept", x.undo(), false);
        due.is("29: nothing hangs", x.keep(), 0);
        x.rod(0, 3);
        x.white(1, 1, 10, 0);
        x.white(0, 1, 10, 1);
        x.red(0, 1, 10, 1, 0);
        x.fall(1);
        x.stiff(1, 4);
        x.seen(0, false);
        x.wet(1, true);
        x.wind(4);
        x.seed(77);
        due.is("29: two hang", x.keep(), 2);
        due.is("29: what is kept last", x.keep(), 2);
        for (int times = 1; times <= 2; times++) {
            x.move(0, 0, 5);
            x.fall(2);
            x.rod(1, 1);
            x.white(2, 1, 10, 5);
            x.stiff(1, 5);
            x.stiff(0, 9);
            x.seen(0, true);
            x.wet(1, false);
            x.wet(0, true);
            x.draw(3);
            Due.law(x, "g1(1=1)");
            x.feed(1, 2, 3, 4, 5);
            due.is("30: undone, time " + times, x.undo(), true);
            counts("30: time " + times, 2, 3, 1, 20, 77, 13, 2);
            int[] rodOne = {1, 1, 0, 0, 3, 4, 1, 1};
            int[] ribbonZero = {1, 1, 10, 0, 0, -1, 1, 1, 0};
            for (int k = 0; k < 8; k++) {
                due.is("30: rod 1, " + k, x.rodIs(1, k), rodOne[k]);
                due.is("30: ribbon 0, " + k, x.ribbon(0, k), ribbonZero[k]);
            }
            due.is("30: rod 0 is not seen", x.rodIs(0, 6), 0);
            due.is("30: rod 0 is dry", x.rodIs(0, 7), 0);
            due.is("30: rod 0 is as stiff", x.rodIs(0, 5), 1);
            due.is("30: ribbon 1 has fallen", x.ribbon(1, 6), 0);
            due.is("30: ribbon 2 hangs", x.ribbon(2, 6), 1);
            due.is("30: no ribbon 3", x.ribbon(3, 6), NO_ANSWER);
            x.check(0);
        }
        due.is("30: numbers go on from there", x.white(0, 2, 3, 4), 3);
        due.is("30: it is a new one", x.ribbon(3, 4), 4);
        x.rod(0, 1);
        x.stiff(2, 50);
        x.seen(2, false);
        x.wet(2, true);
        x.undo();
        due.is("30: a rod's number, too", x.rod(1, 5), 2);
        int[] rodTwo = {0, 0, 0, 1, 5, 1, 1, 0};
        for (int k = 0; k < 8; k++) {
            due.is("30: it is a new rod, " + k, x.rodIs(2, k), rodTwo[k]);
        }
    }

    private static int checkBy(int n, int... numbers) {
        Due.feedNumbers(x, numbers);
        int answer = x.check(n);
        due.is("31: the tape is empty", x.count(3), 0);
        return answer;
    }

    // Promise 31
    private static void check() {
        fresh();
        x.rod(0, 0);
        x.rod(0, 0);
        x.white(0, -1, 5, 0);
        x.white(2, 1, 50, 0);
        x.seen(1, false);
        due.is("31: right", checkBy(3, -5, 0, 9), -1);
        due.is("31: the first is not so", checkBy(3, 5, 0, 8), 0);
        due.is("31: the second", checkBy(3, -5, 1, 8), 1);
        due.is("31: the third", checkBy(3, -5, 0, 50), 2);
        due.is("31: one too many", checkBy(4, -5, 0, 9, 0), 3);
        due.is("31: one is lacking", checkBy(2, -5, 0), 2);
        due.is("31: all are lacking", checkBy(0, -5), 0);
        due.is("31: wrong before lacking", checkBy(2, -5, 7), 1);
        due.is("31: all four bytes count", checkBy(3, -5, 0, 265), 2);
        Due.feedNumbers(x, -5, 0, 9);
        due.is("31: n 6 of 20 bytes", x.check(6), -2);
        due.is("31: n -1", x.check(-1), -2);
        due.is("31: n below", x.check(MIN), -2);
        due.is("31: n above", x.check(MAX), -2);
        due.is("31: n 2^30 and 1", x.check((1 << 30) + 1), -2);
        due.is("31: the tape stays", x.count(3), 20);
        due.is("31: n 5 of 20 bytes", x.check(5), 3);
        due.is("31: no bytes", x.check(1), -2);
    }

    // Promise 32
    private static void count() {
        fresh();
        x.rod(0, 1);
        x.white(0, 1, 1, 1);
        x.white(0, 1, 1, 1);
        x.fall(0);
        Due.law(x, "gl(1=1);gl(1=1);gl(1=1)");
        x.feed(0, 0, 0, 0, 0);
        x.seed(9);
        x.wind(-2);
        counts("32", 2, 2, 3, 20, 9, 7, 1);
        due.is("32: what 7", x.count(7), -1);
        due.is("32: what -1", x.count(-1), -1);
        due.is("32: far off", x.count(MAX) + x.count(MIN), -2);
    }
}
