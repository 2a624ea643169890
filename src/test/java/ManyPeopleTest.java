import java.util.Random;

/**
 * Orders of up to eight people and rings among eight, drawn (by seeds that stand fast) and held
 * against the plain bank, which tries every row: RandomRunsTest asks for six people at most.
 */
public final class ManyPeopleTest {
    private static final int BANKS = 60;
    private static final int PEOPLE = 8;

    private static final Due due = new Due();

    private final Random random;
    private final String name;
    private final BellRibbons bank = new BellRibbons();
    private final PlainBank plain = new PlainBank();

    private ManyPeopleTest(int seed) {
        random = new Random(seed);
        name = "seed " + seed + ": ";
    }

    public static void main(String[] args) {
        for (int seed = 0; seed < BANKS; seed++) {
            new ManyPeopleTest(7000 + seed).orders();
            new ManyPeopleTest(8000 + seed).rings(new int[] {3, 12, 99}[seed % 3]);
        }
        due.end();
    }

    private int drawn(int low, int high) {
        return low + random.nextInt(high - low + 1);
    }

    private void orders() {
        int rods = drawn(1, 5);
        for (int on = 0; on + 1 < rods; on++) {
            int arm = drawn(-9, 9);
            bank.rod(on, arm);
            plain.rod(on, arm);
        }
        int stiff = drawn(1, random.nextBoolean() ? 10 : 200);
        bank.stiff(0, stiff);
        plain.stiff(0, stiff);
        int ribbons = drawn(0, 20);
        for (int k = 0; k < ribbons; k++) {
            newRibbon(rods);
        }
        int people = random.nextInt(4) == 0 ? 255 : drawn(1, 255);
        int limit = drawn(0, 9);
        askOrder(people, limit, -1);
        askOrder(people, limit, drawn(0, PEOPLE - 1));
        askOrder(people, limit, Integer.bitCount(people) - 1);
    }

    private void newRibbon(int rods) {
        int r = drawn(0, rods - 1);
        int arm = drawn(-9, 9);
        int length = drawn(1, random.nextBoolean() ? 4 : 99);
        int owner = drawn(0, PEOPLE - 1);
        if (random.nextInt(6) == 0) {
            int to = (owner + 1) % PEOPLE;
            due.is(name + "red", bank.red(r, arm, length, owner, to), plain.red(r, arm, length, owner, to));
        } else {
            due.is(name + "white", bank.white(r, arm, length, owner), plain.white(r, arm, length, owner));
        }
    }

    private void askOrder(int people, int limit, int what) {
        due.is(name + "order(" + people + ", " + limit + ", " + what + ")",
                bank.order(people, limit, what), plain.order(people, limit, what));
    }

    private void rings(int longest) {
        for (int k = 0; k < 60; k++) {
            int owner = drawn(0, PEOPLE - 1);
            int to = drawn(0, PEOPLE - 1);
            int length = drawn(1, longest);
            due.is(name + "red", bank.red(0, 0, length, owner, to), plain.red(0, 0, length, owner, to));
        }
        for (int what = -2; what < 10; what++) {
            due.is(name + "ring(" + what + ")", bank.ring(what), plain.ring(what));
        }
        due.is(name + "clear()", bank.clear(), plain.clear());
        for (int i = 0; i < 40; i++) {
            due.is(name + "ribbon(" + i + ", 2)", bank.ribbon(i, 2), plain.ribbon(i, 2));
            due.is(name + "ribbon(" + i + ", 6)", bank.ribbon(i, 6), plain.ribbon(i, 6));
        }
        due.is(name + "ring(-1), cleared", bank.ring(-1), -2);
    }
}
