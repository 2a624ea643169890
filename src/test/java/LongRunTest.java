import java.util.Arrays;

/** An object's 512 calls, the dearest ones among them, and banks that stand beside one another. */
public final class LongRunTest {
    private static final int CALLS = 512;
    private static final int KINDS = 15;
    private static final Due due = new Due();

    public static void main(String[] args) {
        due.says("An object is used for at most 512 calls after it has been made");
        ofOneKind();
        ofDearOnes();
        ofAllKinds();
        lawsOneBehindTheOther();
        tapeFilledAgainAndAgain();
        due.says("All memory is the bank's own.");
        banksBesideOneAnother();
        due.end();
    }

    /** Ten rods, each on the one before, and forty ribbons: calls made are 9 and 40 and those of the law. */
    private static BellRibbons large() {
        BellRibbons x = new BellRibbons();
        for (int r = 1; r < 10; r++) {
            x.rod(r - 1, r % 3 - 1);
        }
        for (int i = 0; i < 40; i++) {
            if (i % 4 == 3) {
                x.red(i % 10, i % 19 - 9, 1 + i, i % 8, (i + 3) % 8);
            } else {
                x.white(i % 10, i % 19 - 9, 1 + 2 * i, i % 8);
            }
        }
        Due.law(x, "gl*l%7+l/2(c=0&a<5);pv*l%11-l(w=0|l>50);p[v-o]*3(1=1)");
        return x;
    }

    private static int tell(BellRibbons x, int first, int second) {
        return x.feed(first, second, 0x09090909, 0x09090909, 0x09090909);
    }

    /** The call behind the bytes that it needs; 9 is a lean or a wind of 0, or rod 9 at arm 0. */
    private static long ask(BellRibbons x, int kind) {
        switch (kind) {
            case 0: tell(x, 0x09090909, 0x09090909); return x.gust(6, 1);
            case 1: tell(x, 0x00091209, 0x0A080100); return x.fraud(0, 1, 6, 0);
            case 2: tell(x, 0x00000901, 0x010A0202); return x.level(2, -1);
            case 3: tell(x, 0x09090909, 0x09090909); return x.suspects();
            case 4: tell(x, 0x09090909, 0x09090909); return x.falseBy(39);
            case 5: return x.order(255, 9, 7);
            case 6: tell(x, 0x07060504, 0x03020100); return x.run(8, 9, 1);
            case 7: return x.ring(-1);
            case 8: return x.pay(0, 1, 3, -1);
            case 9: tell(x, 0, 0); return x.check(5);
            case 10: return x.rodIs(0, 1);
            case 11: x.seed(5); return x.draw(60) + x.count(4);
            case 12: return x.wind(0) ? x.keep() : -1;
            case 13: return x.undo() ? x.clear() : -1;
            default: return x.undo() ? x.balance(3) : -1;
        }
    }

    /** All is level by no wind, so that each ribbon may be of any length. */
    private static BellRibbons flat() {
        BellRibbons x = new BellRibbons();
        for (int r = 1; r < 10; r++) {
            x.rod(r - 1, 0);
        }
        for (int r = 0; r < 10; r++) {
            x.stiff(r, 40);
        }
        for (int i = 0; i < 40; i++) {
            x.white(i % 10, 0, 50, i % 8);
        }
        Due.law(x, "gl*l%7(l=1000);pv*l(v>0)");
        return x;
    }

    private static void ofDearOnes() {
        BellRibbons x = flat();
        // by wind 1 each rod leans 5, also if one of its ribbons is 51 to 89 long
        for (int k = 0; k < 70; k++) {
            x.feed(0x09090909, 0x09090909, 0x09090A09, 0x09090800, 0);
            due.is("gust " + k, x.gust(6, 1), 39 * 40);
            x.feed(0x09090909, 0x09090909, 0x09090A09, 0x09090800, 0);
            due.is("its wind " + k, x.gust(6, 0), 10);
            tell(x, 0x09090909, 0x09090909);
            due.is("suspects " + k, x.suspects(), (1L << 40) - 1);
        }
    }

    private static void ofOneKind() {
        for (int kind = 0; kind < 9; kind++) {
            BellRibbons x = large();
            long first = ask(x, kind);
            boolean isSame = true;
            // 60 calls made it, and a call may be two
            for (int k = 0; k < (CALLS - 60) / 2 - 1; k++) {
                isSame &= ask(x, kind) == first;
            }
            due.is("the same call, again and again, of kind " + kind, isSame, true);
            due.is("as on a new object, kind " + kind, ask(large(), kind), first);
        }
    }

    private static void ofAllKinds() {
        BellRibbons x = large();
        x.wind(0);
        x.keep();
        long[] first = new long[KINDS];
        for (int kind = 0; kind < KINDS; kind++) {
            first[kind] = ask(x, kind);
        }
        for (int round = 0; round < 15; round++) {
            x.undo();
            for (int kind = 0; kind < KINDS; kind++) {
                due.is("round " + round + ", kind " + kind, ask(x, kind), first[kind]);
            }
        }
    }

    private static void lawsOneBehindTheOther() {
        BellRibbons x = new BellRibbons();
        x.white(0, 1, 5, 0);
        for (int k = 0; k < 127; k++) {
            due.is("law " + k, Due.law(x, k % 2 == 0 ? "g" + k + "(1=1)" : "g0(l=5);p1(1=1)"), 1 + k % 2);
            due.is("heavy by law " + k, x.ribbon(0, 7), k % 2 == 0 ? k : 0);
        }
    }

    private static void tapeFilledAgainAndAgain() {
        BellRibbons x = new BellRibbons();
        for (int k = 1; k <= 39; k++) {
            for (int m = 1; m <= 11; m++) {
                due.is("feed " + m + " of " + k, x.feed(0, 0, 0, 0, 0), 20 * m);
            }
            due.is("one too many", x.feed(0, 0, 0, 0, 0), -1);
            due.is("emptied", x.check(1), -1);
        }
    }

    /** What one is told is not known to the other, whichever comes first. */
    private static void banksBesideOneAnother() {
        BellRibbons one = large();
        BellRibbons other = EdgesTest.some();
        one.wind(0);
        one.keep();
        other.check(0);
        BellRibbons oneAlone = large();
        oneAlone.wind(0);
        oneAlone.keep();
        BellRibbons otherAlone = EdgesTest.some();
        otherAlone.check(0);
        long[] want = new long[2 * KINDS];
        for (int kind = 0; kind < KINDS; kind++) {
            want[kind] = ask(oneAlone, kind);
        }
        for (int kind = 0; kind < KINDS; kind++) {
            want[KINDS + kind] = ask(otherAlone, kind);
        }
        for (int kind = 0; kind < KINDS; kind++) {
            due.is("the one, kind " + kind, ask(one, kind), want[kind]);
            due.is("the other, kind " + kind, ask(other, kind), want[KINDS + kind]);
        }
        due.is("the other at the end", Arrays.equals(Edges.state(other), Edges.state(otherAlone)), true);
        due.is("a third is new", Arrays.equals(Edges.state(new BellRibbons()), Edges.state(new BellRibbons())), true);
    }
}
