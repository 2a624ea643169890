import java.util.Arrays;

/** The sentences of the document's Terms that say how much there may be, and what counts and what does not. */
public final class TermsTest {
    private static final Due due = new Due();

    public static void main(String[] args) {
        rods();
        people();
        ribbons();
        theWind();
        conditions();
        thePicture();
        balance();
        level();
        rings();
        run();
        drawn();
        check();
        refusedCalls();
        due.end();
    }

    private static void rods() {
        due.says("RODS 0 to 9: ROD 0 hangs on the tower; each other one on a ROD of a lower number at an ARM (-9 to 9);");
        for (int r = 1; r < 10; r++) {
            BellRibbons x = new BellRibbons();
            while (x.count(0) < r) {
                x.rod(x.count(0) - 1, 1);
            }
            due.is("on itself", x.rod(r, 0), -1);
            due.is("on one that is not yet there", x.rod(r + 1, 0), -1);
            due.is("on the last one", x.rod(r - 1, -9), r);
            due.is("on which it hangs", x.rodIs(r, 3), r - 1);
            due.is("its arm", x.rodIs(r, 4), -9);
            due.is("the tower has one alone", x.rodIs(0, 3), -1);
        }
    }

    private static void people() {
        due.says("PEOPLE 0 to 7.");
        for (int p = -1; p <= 8; p++) {
            boolean isOne = p >= 0 && p <= 7;
            int other = p == 0 ? 1 : 0;
            BellRibbons x = new BellRibbons();
            due.is("white of " + p, x.white(0, 0, 50, p), isOne ? 0 : -1);
            due.is("red of " + p, x.red(0, 0, 1, p, other), isOne ? 1 : -1);
            due.is("red to " + p, x.red(0, 0, 1, other, p), isOne ? 2 : -1);
            x.white(0, 0, 50, other);
            due.is("balance of " + p, x.balance(p), isOne ? 50 : Edges.NO_ANSWER);
            due.is("owed by " + p, x.owes(p, other), isOne ? 1 : -1);
            due.is("owed to " + p, x.owes(other, p), isOne ? 1 : -1);
            due.is("paid by " + p, x.pay(p, other, 9, -1), isOne ? 0 : -3);
            due.is("paid to " + p, x.pay(other, p, 9, -1), isOne ? 0 : -3);
            Due.feed(x, 9);
            due.is("cheated by " + p, x.fraud(p, other, 1, 0), isOne ? 49 : -1);
            x.check(0);
            Due.feed(x, 9);
            due.is("cheated for " + p, x.fraud(other, p, 1, 0), isOne ? 49 : -1);
            x.check(0);
            Due.feed(x, p & 255);
            due.is("run of " + p, x.run(1, 0, 1), isOne ? 50 : -2);
            due.is("order of " + p, x.order(p < 0 ? 1 << 31 : 1 << p, 0, -1), isOne ? 50 : -1);
        }
    }

    private static void ribbons() {
        due.says("RIBBONS 0 to 39: on a ROD at an ARM (-9 to 9), of a LENGTH (1 to 99), a COLOUR (0 white: OWNER has it; 1 red: OWNER owes it to another PERSON);");
        BellRibbons x = new BellRibbons();
        for (int i = 0; i < 40; i++) {
            int arm = i % 19 - 9;
            int length = i == 0 ? 1 : i == 39 ? 99 : 2 * i;
            boolean isRed = i % 3 == 0;
            int owner = i % 8;
            int to = (i + 7) % 8;
            due.is("ribbon " + i, isRed ? x.red(0, arm, length, owner, to) : x.white(0, arm, length, owner), i);
            int[] want = {0, arm, length, isRed ? 1 : 0, owner, isRed ? to : -1, 1, length, 0};
            for (int what = 0; what < 9; what++) {
                due.is("ribbon(" + i + "," + what + ")", x.ribbon(i, what), want[what]);
            }
        }
        due.is("no ribbon 40", x.white(0, 0, 1, 0), -1);
        due.is("no ribbon 40", x.ribbon(40, 0), Edges.NO_ANSWER);
    }

    private static void theWind() {
        due.says("WIND -9 to 9 (0 at first).");
        BellRibbons x = new BellRibbons();
        due.is("at first", x.count(5), 9);
        x.white(0, 0, 5, 0);
        Due.law(x, "pv(1=1)");
        for (int v = -12; v <= 12; v++) {
            x.wind(0);
            due.is("wind " + v, x.wind(v), Math.abs(v) <= 9);
            due.is("it blows", x.rodIs(0, 1), Math.abs(v) <= 9 ? v : 0);
        }
    }

    private static void holds(String condition, boolean want) {
        BellRibbons x = new BellRibbons();
        x.white(0, 0, 5, 0);
        due.is("no fault in " + condition, Due.law(x, "g1(" + condition + ")"), 1);
        due.is(condition, x.ribbon(0, 7), want ? 1 : 5);
    }

    private static void conditions() {
        due.says("C: PARTS with a | between two, one of which must hold; a PART: PIECES with an & between two, all of which must");
        for (int bits = 0; bits < 16; bits++) {
            boolean[] is = new boolean[4];
            String[] text = new String[4];
            for (int k = 0; k < 4; k++) {
                is[k] = (bits >> k & 1) != 0;
                text[k] = is[k] ? "l=5" : "l=6";
            }
            holds(String.join("|", text), bits != 0);
            holds(String.join("&", text), bits == 15);
            holds(text[0] + "|" + text[1] + "&" + text[2] + "|" + text[3], is[0] || is[1] && is[2] || is[3]);
            holds(text[0] + "&" + text[1] + "|" + text[2] + "&" + text[3], is[0] && is[1] || is[2] && is[3]);
            holds("(" + text[0] + "|" + text[1] + ")&(" + text[2] + "|" + text[3] + ")", (is[0] || is[1]) && (is[2] || is[3]));
            holds("!(" + text[0] + "&" + text[1] + ")|!" + text[2] + "&" + text[3], !(is[0] && is[1]) || !is[2] && is[3]);
            holds("!" + text[0] + "|" + text[1], !is[0] || is[1]);
            holds("!!" + text[0] + "&!" + text[1], is[0] && !is[1]);
        }
        due.says("a PIECE: !PIECE, (C), or E, one of < > =, and E.");
        for (int left = 4; left <= 6; left++) {
            holds("l<" + left, 5 < left);
            holds("l>" + left, 5 > left);
            holds("l=" + left, 5 == left);
            holds("!l<" + left, 5 >= left);
            holds("!l>" + left, 5 <= left);
            holds("!l=" + left, 5 != left);
        }
    }

    private static void thePicture() {
        due.says("THE PICTURE: LEANS of all RODS that are SEEN.");
        BellRibbons x = new BellRibbons();
        for (int r = 1; r < 10; r++) {
            x.rod(r - 1, 1);
        }
        x.white(9, 1, 5, 0);
        x.white(9, 0, 5, 1);
        // rod 9 leans 5 by the length 5 alone; the others lean 9 by 4 to 99
        for (int seen = 10; seen >= 1; seen--) {
            int[] leans = new int[seen];
            Arrays.fill(leans, 18);
            if (seen == 10) {
                leans[9] = 14;
            }
            Due.feed(x, leans);
            due.is("as they are, seen " + seen, x.falseBy(0), seen == 10 ? 0 : 95);
            x.seen(seen - 1, false);
        }
        due.is("nothing is seen", x.falseBy(0), 98);
        Due.feed(x, 9);
        due.is("and no fraud is", x.fraud(0, 1, 1, 0), 4);
    }

    private static void balance() {
        due.says("BALANCE of a PERSON: LENGTHS of white ones it has, and of red ones owed to it, less those of red ones it owes (RIBBONS that hang).");
        BellRibbons x = new BellRibbons();
        for (int i = 0; i < 13; i++) {
            x.white(0, 0, 99, 0);
            x.red(0, 0, 99, 1, 2);
            x.red(0, 0, 99, 2, 0);
        }
        due.is("of 0", x.balance(0), 2 * 13 * 99);
        due.is("of 1", x.balance(1), -13 * 99);
        due.is("of 2", x.balance(2), 0);
        for (int i = 0; i < 39; i++) {
            x.fall(i);
        }
        for (int p = 0; p < 8; p++) {
            due.is("all have fallen, " + p, x.balance(p), 0);
        }
    }

    private static void level() {
        due.says("LEVEL: told RIBBONS (1 to 6) are hung at as many told places (ROD, ARM), one at each");
        for (int n = 1; n <= 6; n++) {
            BellRibbons x = new BellRibbons();
            x.rod(0, 0);
            int[] bytes = new int[3 * n];
            for (int k = 0; k < n; k++) {
                x.white(0, 9, 1 + k, 0);
                bytes[3 * k] = k;
                bytes[3 * k + 1] = k % 2;
                bytes[3 * k + 2] = 9 + (k % 4 < 2 ? -4 : 4);
            }
            if (n > 4) {
                bytes[14] = 9;
            }
            if (n > 5) {
                bytes[17] = 9;
            }
            Due.feed(x, bytes);
            int sum = x.level(n, -1);
            Due.feed(x, bytes);
            due.is("done of " + n, x.level(n, 6), sum);
            due.is("as it hangs of " + n, Math.abs(x.rodIs(0, 2)) + Math.abs(x.rodIs(1, 2)), sum);
            int places = 0;
            for (int k = 0; k < n; k++) {
                for (int m = 0; m < n; m++) {
                    if (x.ribbon(k, 0) == bytes[3 * m + 1] && x.ribbon(k, 1) == bytes[3 * m + 2] - 9) {
                        places |= 1 << m;
                    }
                }
            }
            due.is("one at each of " + n, places, (1 << n) - 1);
        }
    }

    private static void rings() {
        due.says("by the least of these sums each debt is less: CUT: so much times PEOPLE.");
        for (int least = 0; least < 3; least++) {
            BellRibbons x = new BellRibbons();
            for (int k = 0; k < 3; k++) {
                x.red(0, 0, k == least ? 2 : 30, k, (k + 1) % 3);
                x.red(0, 0, k == least ? 3 : 40, k, (k + 1) % 3);
            }
            due.is("cut, least " + least, x.ring(-1), 15);
            due.is("cleared, least " + least, x.clear(), 15);
            for (int k = 0; k < 3; k++) {
                due.is("less by 5, " + k, x.owes(k, (k + 1) % 3), k == least ? 0 : 65);
                due.is("the lowest first, " + k, x.ribbon(2 * k, 2), k == least ? 0 : 25);
                due.is("then the second, " + k, x.ribbon(2 * k + 1, 2), k == least ? 0 : 40);
            }
        }
    }

    private static void run() {
        due.says("A RUN: PEOPLE in a told order, one in a minute, take all their white RIBBONS down");
        BellRibbons x = new BellRibbons();
        x.rod(0, 5);
        for (int p = 0; p < 8; p++) {
            x.white(0, 1, 1, p);
            x.white(0, -1, 1, p);
            x.white(1, p % 2 * 9, 1 + p, p);
            x.red(0, 0, 50, p, (p + 1) % 8);
        }
        x.fall(0);
        x.fall(1);
        x.stiff(0, 999);
        int got = 0;
        int[] people = {3, 0, 7, 1, 6, 2, 5, 4};
        for (int n = 1; n <= 8; n++) {
            got += people[n - 1] == 0 ? 1 : 3 + people[n - 1];
            Due.feed(x, people);
            due.is("got by " + n, x.run(n, 0, 1), got);
        }
    }

    private static void drawn() {
        due.says("DRAWN: n days (1 to 60)");
        for (int n = 1; n <= 60; n++) {
            BellRibbons together = new BellRibbons();
            BellRibbons oneByOne = new BellRibbons();
            together.white(0, 1, 1, 0);
            due.is("all of " + n + " days", together.draw(n), n);
            for (int k = 0; k < n; k++) {
                oneByOne.draw(1);
            }
            due.is("X behind " + n, together.count(4), oneByOne.count(4));
            due.is("wind behind " + n, together.count(5), oneByOne.count(5));
        }
    }

    private static void check() {
        due.says("CHECK: LEANS of all RODS: right, or the first number that is not so.");
        for (int rods = 1; rods <= 10; rods++) {
            BellRibbons x = new BellRibbons();
            int[] leans = new int[rods];
            for (int r = 0; r < rods; r++) {
                if (r > 0) {
                    x.rod(0, 0);
                }
                x.white(r, r % 2 == 0 ? 1 : -1, 1 + r, 0);
                leans[r] = Math.min(9, 1 + r) * (r % 2 == 0 ? 1 : -1);
                x.seen(r, r % 3 == 0);
            }
            Due.feedNumbers(x, leans);
            due.is("right, seen or not, " + rods, x.check(rods), -1);
            Due.feedNumbers(x, leans);
            due.is("one is lacking, " + rods, x.check(rods - 1), rods - 1);
            for (int wrong = 0; wrong < rods; wrong++) {
                int[] others = leans.clone();
                others[wrong] = -others[wrong];
                Due.feedNumbers(x, others);
                due.is("wrong at " + wrong + " of " + rods, x.check(rods), wrong);
            }
        }
    }

    private static void refusedCalls() {
        due.says("A call that is refused (NONE, false) changes nothing but the tape, where it is told.");
        Edges edges = new Edges(due, EdgesTest::some);
        edges.leaves("rod", x -> x.rod(3, 0), -1);
        edges.leaves("stiff", x -> x.stiff(0, 0) ? 1 : 0, 0);
        edges.leaves("seen", x -> x.seen(0, true) ? 1 : 0, 0);
        edges.leaves("wet", x -> x.wet(0, false) ? 1 : 0, 0);
        edges.leaves("white", x -> x.white(0, 0, 100, 0), -1);
        edges.leaves("red", x -> x.red(0, 0, 9, 4, 4), -1);
        edges.leaves("wind", x -> x.wind(10) ? 1 : 0, 0);
        edges.leaves("law", x -> x.law(21), -1);
        edges.leaves("move", x -> x.move(4, 0, 0) ? 1 : 0, 0);
        edges.leaves("fall", x -> x.fall(4) ? 1 : 0, 0);
        edges.leaves("pay", x -> x.pay(0, 0, 1, 2), -3);
        edges.leaves("pay that can't be", x -> x.pay(0, 1, 10, 2), -2);
        edges.leaves("level", x -> x.level(7, 6), -3);
        edges.empties("level twice the same", x -> x.level(2, 6), -2);
        edges.leaves("falseBy", x -> x.falseBy(6), -1);
        edges.leaves("gust", x -> x.gust(7, 0), -1);
        edges.leaves("fraud", x -> x.fraud(0, 0, 1, 0), -1);
        edges.leaves("owes", x -> x.owes(0, 0), -1);
        edges.leaves("ring", x -> x.ring(9), -1);
        edges.leaves("run", x -> x.run(9, 0, 0), -1);
        edges.empties("run of one twice", x -> x.run(2, 0, 0), -2);
        edges.leaves("order", x -> x.order(0, 0, 0), -1);
        edges.leaves("seed", x -> x.seed(65536) ? 1 : 0, 0);
        edges.leaves("draw", x -> x.draw(61), -1);
        edges.leaves("check", x -> x.check(6), -2);
        edges.leaves("count", x -> x.count(7), -1);
    }
}
