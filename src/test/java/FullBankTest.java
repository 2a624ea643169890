/** A bank in which all is there that may be: the last rod, ribbon, clause, person, length. */
public final class FullBankTest {
    private static final Due due = new Due();
    private static final long ALL = (1L << 40) - 1;

    private static BellRibbons x;

    public static void main(String[] args) {
        weights();
        whatIsFalse();
        theLastRibbonPays();
        allRodsLean();
        theLastRibbonIsLevelled();
        theLastPerson();
        ringOfAll();
        manyRings();
        theLastClause();
        keptAndUndone();
        due.end();
    }

    /** Ten rods, each on the one before, at an arm, each so stiff. */
    private static void rods(int arm, int stiff) {
        x = new BellRibbons();
        for (int r = 0; r < 10; r++) {
            if (r > 0) {
                due.is("rod " + r, x.rod(r - 1, arm), r);
            }
            due.is("stiff " + r, x.stiff(r, stiff), true);
        }
    }

    /** White ones of person 0 on rod 0 at arm 0, up to this many. */
    private static void fill(int upTo, int length) {
        while (x.count(1) < upTo) {
            x.white(0, 0, length, 0);
        }
    }

    private static void weights() {
        rods(1, 999);
        fill(20, 10);
        for (int k = 20; k < 40; k++) {
            due.is("ribbon " + k, x.red(9, 1, k, k % 2, 2 + k % 2), k);
        }
        due.is("a 41st, white", x.white(0, 0, 1, 0), -1);
        due.is("a 41st, red", x.red(0, 0, 1, 0, 1), -1);
        due.is("an eleventh rod", x.rod(0, 0), -1);
        due.is("all hang", x.count(6), 40);
        due.is("load of the last", x.rodIs(9, 0), 590);
        due.is("moment of the last", x.rodIs(9, 1), 590);
        due.is("load of the first", x.rodIs(0, 0), 790);
        due.is("moment of the first", x.rodIs(0, 1), 590);
        due.is("balance of 0", x.balance(0), 200 - 290);
        due.is("balance of 1", x.balance(1), -300);
        due.is("balance of 2", x.balance(2), 290);
        due.is("balance of 3", x.balance(3), 300);
        due.is("owed by 1", x.owes(1, 3), 300);
        due.is("the last one's length", x.ribbon(39, 2), 39);
        due.is("no ring", x.ring(-1), -2);
        due.is("nothing to clear", x.clear(), 0);
        due.is("days", x.draw(60), 0);
        due.is("the last one falls", x.fall(39), true);
        due.is("one hangs no more", x.count(6), 39);
        due.is("a place that has been is not free", x.white(0, 0, 1, 0), -1);
    }

    private static void whatIsFalse() {
        rods(0, 1);
        fill(40, 50);
        int[] level = {9, 9, 9, 9, 9, 9, 9, 9, 9, 9, 18, 17, 16, 15, 14, 13};
        Due.feed(x, level);
        due.is("lengths of the last one", x.falseBy(39), 98);
        Due.feed(x, level);
        due.is("all may be false", x.suspects(), ALL);
        Due.feed(x, level);
        due.is("all in one picture", x.gust(6, 1), 3920);
        Due.feed(x, level);
        due.is("the first wind told", x.gust(6, 0), 18);
    }

    private static void theLastRibbonPays() {
        rods(0, 1);
        fill(39, 50);
        due.is("the last is of 7", x.white(9, 0, 50, 7), 39);
        due.is("7 pays", x.pay(7, 0, 49, 0) * 100 + x.pay(7, 0, 49, 1), 3900);
        due.is("7 is paid", x.pay(0, 7, 49, 0) * 100 + x.pay(0, 7, 49, 1), 39);
        due.is("7 can't pay 50", x.pay(7, 0, 50, -1), -2);
        for (int what = 0; what < 3; what++) {
            Due.feed(x, 0, 18, 1, 17, 9, 9);
            due.is("7 cheats, " + what, x.fraud(7, 0, 6, what), new int[] {49, 39, 0}[what]);
            Due.feed(x, 0, 18, 1, 17, 9, 9);
            due.is("7 is cheated for, " + what, x.fraud(0, 7, 6, what), new int[] {49, 0, 39}[what]);
        }
        due.is("7 is paid indeed", x.pay(0, 7, 49, 2), 0);
        due.is("99 long", x.ribbon(39, 2), 99);
    }

    private static void allRodsLean() {
        rods(1, 1);
        x.white(9, 1, 5, 0);
        x.white(0, 0, 5, 1);
        due.is("all ten lean otherwise", x.pay(0, 1, 1, -1), 10);
        due.is("all ten do", x.pay(0, 1, 1, 2), 10);
        for (int r = 0; r < 10; r++) {
            due.is("lean of " + r, x.rodIs(r, 2), 4);
        }
        Due.feedNumbers(x, 4, 4, 4, 4, 4, 4, 4, 4, 4, 4);
        due.is("all ten are right", x.check(10), -1);
        Due.feedNumbers(x, 4, 4, 4, 4, 4, 4, 4, 4, 4, 5);
        due.is("the last is wrong", x.check(10), 9);
        Due.feedNumbers(x, 4, 4, 4, 4, 4, 4, 4, 4, 4, 4, 4);
        due.is("there is no eleventh", x.check(11), 10);
        Due.feedNumbers(x, 4, 4, 4, 4, 4, 4, 4, 4, 4, 4);
        due.is("one is lacking", x.check(9), 9);
    }

    private static void theLastRibbonIsLevelled() {
        rods(0, 1);
        fill(34, 1);
        for (int k = 34; k < 40; k++) {
            x.white(9, 9, 1, 0);
        }
        int[] told = new int[18];
        for (int k = 0; k < 6; k++) {
            told[3 * k] = 34 + k;
            told[3 * k + 1] = 9 - k;
            told[3 * k + 2] = 9 + (k < 3 ? -9 : 9);
        }
        Due.feed(x, told);
        due.is("six lean wholly", x.level(6, -1), 54);
        Due.feed(x, told);
        due.is("the last one at the last place", x.level(6, 5), 5);
        Due.feed(x, told);
        due.is("they are hung", x.level(6, 6), 54);
        for (int k = 0; k < 6; k++) {
            due.is("rod of " + (34 + k), x.ribbon(34 + k, 0), 9 - k);
            due.is("arm of " + (34 + k), x.ribbon(34 + k, 1), k < 3 ? -9 : 9);
        }
    }

    private static void theLastPerson() {
        rods(1, 10);
        fill(39, 2);
        x.white(9, 1, 20, 7);
        Due.feed(x, 7, 0, 1, 2, 3, 4, 5, 6);
        due.is("a lean of 2 holds, all get theirs", x.run(8, 2, 0), 255);
        Due.feed(x, 7, 0, 1, 2, 3, 4, 5, 6);
        due.is("all is got", x.run(8, 2, 1), 98);
        Due.feed(x, 7, 0, 1, 2, 3, 4, 5, 6);
        due.is("a lean of 2 is too much", x.run(8, 1, 0), 0);
        due.is("in any order all is got", x.order(255, 2, -1), 98);
        for (int k = 0; k < 8; k++) {
            due.is("the least row, place " + k, x.order(255, 2, k), k);
        }
        due.is("no ninth place", x.order(255, 2, 8), -1);
        due.is("no ninth person", x.order(256, 2, 0), -1);
    }

    private static void ringOfAll() {
        rods(0, 1);
        for (int k = 0; k < 40; k++) {
            x.red(k % 10, 0, 1 + k / 8, 7 - k % 8, (14 - k % 8) % 8);
        }
        due.is("all are in it", x.ring(8), 8);
        due.is("all is cut", x.ring(-1), 120);
        int[] row = {0, 7, 6, 5, 4, 3, 2, 1};
        for (int k = 0; k < 8; k++) {
            due.is("the ring's place " + k, x.ring(k), row[k]);
        }
        due.is("cleared", x.clear(), 120);
        due.is("nothing hangs", x.count(6), 0);
        due.is("the last one is cut down", x.ribbon(39, 2), 0);
        due.is("nothing is owed", x.owes(0, 7), 0);
        due.is("no ring more", x.ring(8), -2);
    }

    /** Twenty pairs that owe each other: ring after ring is cut. */
    private static void manyRings() {
        PlainBank plain = new PlainBank();
        x = new BellRibbons();
        int k = 0;
        for (int a = 0; a < 8 && k < 40; a++) {
            for (int b = a + 1; b < 8 && k < 40; b++) {
                int length = 99 - 2 * k;
                x.red(0, 0, length, a, b);
                x.red(0, 0, length, b, a);
                plain.red(0, 0, length, a, b);
                plain.red(0, 0, length, b, a);
                k += 2;
            }
        }
        due.is("forty hang", x.count(6), 40);
        due.is("many rings are cut", x.clear(), plain.clear());
        due.is("as many fell", x.count(6), plain.count(6));
        for (int i = 0; i < 40; i++) {
            due.is("length of " + i, x.ribbon(i, 2), plain.ribbon(i, 2));
        }
    }

    private static void theLastClause() {
        x = new BellRibbons();
        x.white(0, 2, 5, 0);
        StringBuilder text = new StringBuilder();
        for (int k = 0; k < 13; k++) {
            text.append("g").append(k).append("(0=1);");
        }
        due.is("fourteen clauses", Due.law(x, text + "g77(l=5)"), 14);
        due.is("the fourteenth", x.ribbon(0, 7), 77);
        due.is("its moment", x.rodIs(0, 1), 154);
        due.is("fourteen, none of which holds", Due.law(x, text + "g77(l=4)"), 14);
        due.is("none", x.ribbon(0, 7), 5);
        due.is("fourteen, the last one a push", Due.law(x, text + "p78(l>4)"), 14);
        due.is("it is pushed", x.ribbon(0, 8), 78);
    }

    private static void keptAndUndone() {
        rods(1, 7);
        fill(40, 3);
        x.move(39, 9, 9);
        due.is("forty are kept", x.keep(), 40);
        int moment = x.rodIs(0, 1);
        for (int i = 0; i < 40; i++) {
            x.fall(i);
        }
        x.stiff(9, 8);
        x.wet(9, true);
        x.seen(9, false);
        due.is("undone", x.undo(), true);
        due.is("forty hang again", x.count(6), 40);
        due.is("the last one's arm", x.ribbon(39, 1), 9);
        due.is("the last rod is stiff", x.rodIs(9, 5), 7);
        due.is("the last rod is seen", x.rodIs(9, 6), 1);
        due.is("the last rod is dry", x.rodIs(9, 7), 0);
        due.is("as it was", x.rodIs(0, 1), moment);
    }
}
