import java.util.ArrayList;
import java.util.Arrays;
import java.util.List;
import java.util.Random;

/** Runs of drawn calls (by seeds that stand fast), each answer held against the plain bank's. */
public final class RandomRunsTest {
    private static final int RUNS = 60;
    // what an object answers behind its 512th call is free; one step of a run takes 13 calls at most
    private static final int MOST_CALLS = 512 - 13;

    // what half of a run's calls are about
    private static final int DEBTS = 1;
    private static final int WHITES = 2;
    private static final int PICTURES = 3;
    private static final int THEMES = 4;

    private final Random random;
    private final BellRibbons bank = new BellRibbons();
    private final PlainBank plain = new PlainBank();
    private final LawTexts texts;
    private final int theme;
    private final List<String> told = new ArrayList<>();
    private boolean isWrong;

    private RandomRunsTest(int seed) {
        random = new Random(seed);
        texts = new LawTexts(random);
        theme = seed % THEMES;
    }

    /** A second argument tells how many runs, a third by which seed the first one is drawn. */
    public static void main(String[] args) {
        int runs = args.length > 1 ? Integer.parseInt(args[1]) : RUNS;
        int first = args.length > 2 ? Integer.parseInt(args[2]) : 1;
        int wrong = 0;
        for (int seed = first; seed < first + runs && wrong < 5; seed++) {
            RandomRunsTest run = new RandomRunsTest(seed);
            if (!run.isRight(seed)) {
                wrong++;
            }
        }
        System.out.println(wrong == 0 ? "all drawn runs are right" : wrong + " drawn runs are wrong");
        System.exit(wrong == 0 ? 0 : 1);
    }

    private boolean isRight(int seed) {
        int rods = random.nextInt(10);
        for (int k = 0; k < rods; k++) {
            newRod();
        }
        int ribbons = seed % 13 == 0 ? 40 : random.nextInt(14);
        boolean isRed = theme == DEBTS;
        for (int k = 0; k < ribbons; k++) {
            if (isRed) {
                newRed();
            } else {
                newRibbon();
            }
        }
        while (told.size() < MOST_CALLS && !isWrong) {
            call();
        }
        if (isWrong) {
            System.out.println("seed " + seed + ": " + String.join("; ", told.subList(Math.max(0, told.size() - 60), told.size())));
        }
        return !isWrong;
    }

    private void due(String call, long got, long want) {
        told.add(call + " = " + got);
        if (got != want && !isWrong) {
            isWrong = true;
            told.add("but due is " + want);
        }
    }

    private void due(String call, boolean got, boolean want) {
        due(call, got ? 1 : 0, want ? 1 : 0);
    }

    /** Mostly within, sometimes just beyond. */
    private int near(int low, int high) {
        int r = random.nextInt(60);
        if (r == 0) {
            return low - 1;
        }
        if (r == 1) {
            return high + 1;
        }
        if (r == 2 && random.nextInt(5) == 0) {
            return random.nextBoolean() ? Integer.MIN_VALUE : Integer.MAX_VALUE;
        }
        return high < low ? low : low + random.nextInt(high - low + 1);
    }

    private int someRod() {
        return near(0, plain.count(0) - 1);
    }

    private int someRibbon() {
        return near(0, plain.count(1) - 1);
    }

    private int someone() {
        return near(0, random.nextInt(3) == 0 ? 7 : 2);
    }

    private void newRod() {
        int on = someRod();
        int arm = near(-9, 9);
        due("rod(" + on + "," + arm + ")", bank.rod(on, arm), plain.rod(on, arm));
        if (random.nextBoolean()) {
            newStiff();
        }
    }

    private void newStiff() {
        int r = someRod();
        int n = near(1, random.nextInt(3) == 0 ? 999 : 60);
        due("stiff(" + r + "," + n + ")", bank.stiff(r, n), plain.stiff(r, n));
    }

    private void newRibbon() {
        if (random.nextInt(4) == 0) {
            newRed();
            return;
        }
        int r = someRod();
        int arm = near(-9, 9);
        int length = near(1, random.nextBoolean() ? 99 : 12);
        int owner = someone();
        due("white(" + r + "," + arm + "," + length + "," + owner + ")",
                bank.white(r, arm, length, owner), plain.white(r, arm, length, owner));
    }

    private void newRed() {
        int r = someRod();
        int arm = near(-9, 9);
        int length = near(1, random.nextBoolean() ? 99 : 5);
        int owner = someone();
        int to = theme == DEBTS ? someone() : near(0, 7);
        due("red(" + r + "," + arm + "," + length + "," + owner + "," + to + ")",
                bank.red(r, arm, length, owner, to), plain.red(r, arm, length, owner, to));
    }

    private void feed(List<Integer> bytes) {
        if (plain.count(3) > 0 && random.nextInt(10) > 0) {
            emptyTape();
        }
        for (int k = 0; k < bytes.size(); k += 20) {
            int[] five = new int[5];
            for (int m = 0; m < 20; m++) {
                int b = k + m < bytes.size() ? bytes.get(k + m) : random.nextInt(random.nextBoolean() ? 19 : 256);
                five[m / 4] = five[m / 4] << 8 | b & 255;
            }
            due("feed" + Arrays.toString(five), bank.feed(five[0], five[1], five[2], five[3], five[4]), plain.feed(five));
        }
    }

    private void emptyTape() {
        due("check(0)", bank.check(0), plain.check(0));
    }

    private void newLaw() {
        int kind = random.nextInt(8);
        String text = kind < 2 ? texts.simple() : kind < 5 ? texts.right() : kind < 7 ? texts.spoilt() : texts.extreme();
        List<Integer> bytes = new ArrayList<>();
        for (char c : text.toCharArray()) {
            bytes.add((int) c);
        }
        feed(bytes);
        int n = random.nextInt(20) == 0 ? near(1, 200) : text.length();
        due("law(" + n + ": " + text + ")", bank.law(n), plain.law(n));
    }

    private List<Integer> pictureBytes() {
        List<Integer> bytes = new ArrayList<>();
        int kind = random.nextInt(5);
        for (int r = 0; r < plain.count(0); r++) {
            if (plain.rodIs(r, 6) == 1) {
                int lean = plain.rodIs(r, 2) + 9;
                if (kind == 0) {
                    lean = Math.max(0, Math.min(18, lean + random.nextInt(3) - 1));
                }
                bytes.add(random.nextInt(150) == 0 ? 19 + random.nextInt(237) : lean);
            }
        }
        return bytes;
    }

    private void addWinds(List<Integer> bytes, int n) {
        for (int k = 0; k < n && k < 10; k++) {
            bytes.add(near(0, 18));
        }
    }

    private void askLevel() {
        int n = near(1, random.nextInt(4) == 0 ? 6 : 3);
        List<Integer> bytes = new ArrayList<>();
        for (int k = 0; k < n && k < 7; k++) {
            bytes.add(random.nextInt(3) > 0 ? k * 2 % Math.max(1, plain.count(1)) : someRibbon());
            bytes.add(someRod());
            bytes.add(near(0, 18));
        }
        feed(bytes);
        int what = near(-1, random.nextBoolean() ? 6 : Math.min(5, n - 1));
        due("level(" + n + "," + what + ")", bank.level(n, what), plain.level(n, what));
    }

    private void askFalse() {
        List<Integer> bytes = pictureBytes();
        if (random.nextInt(3) == 0) {
            feed(bytes);
            due("suspects()", bank.suspects(), plain.suspects());
        } else if (random.nextBoolean()) {
            feed(bytes);
            int i = someRibbon();
            due("falseBy(" + i + ")", bank.falseBy(i), plain.falseBy(i));
        } else {
            int n = near(1, random.nextInt(3) == 0 ? 6 : 2);
            addWinds(bytes, n);
            feed(bytes);
            int what = near(0, 1);
            due("gust(" + n + "," + what + ")", bank.gust(n, what), plain.gust(n, what));
        }
    }

    private void askFraud() {
        int n = near(1, random.nextInt(3) == 0 ? 6 : 2);
        List<Integer> bytes = new ArrayList<>();
        addWinds(bytes, n);
        feed(bytes);
        int a = someone();
        int b = someone();
        int what = near(0, 2);
        due("fraud(" + a + "," + b + "," + n + "," + what + ")", bank.fraud(a, b, n, what), plain.fraud(a, b, n, what));
    }

    private void askRun() {
        int n = near(1, random.nextInt(3) == 0 ? 8 : 3);
        List<Integer> bytes = new ArrayList<>();
        int first = random.nextInt(8);
        for (int k = 0; k < n && k < 10; k++) {
            bytes.add(random.nextInt(12) == 0 ? near(0, 7) : (first + 3 * k) % 8);
        }
        feed(bytes);
        int limit = near(0, 9);
        int what = near(0, 1);
        due("run(" + n + "," + limit + "," + what + ")", bank.run(n, limit, what), plain.run(n, limit, what));
    }

    private void askOrder() {
        int people = near(1, random.nextInt(3) == 0 ? 63 : 15);
        int limit = near(0, 9);
        int what = near(-1, 3);
        due("order(" + people + "," + limit + "," + what + ")", bank.order(people, limit, what), plain.order(people, limit, what));
    }

    private void askCheck() {
        List<Integer> bytes = new ArrayList<>();
        int n = plain.count(0) + (random.nextInt(4) == 0 ? random.nextInt(4) - 2 : 0);
        int other = random.nextInt(40);
        for (int k = 0; k < n; k++) {
            int lean = plain.rodIs(k, 2) + (k == other ? 1 : 0);
            bytes.addAll(Arrays.asList(lean >>> 24, lean >>> 16, lean >>> 8, lean));
        }
        feed(bytes);
        int m = random.nextInt(8) == 0 ? near(-1, 12) : n;
        due("check(" + m + ")", bank.check(m), plain.check(m));
    }

    private void askPay() {
        int a = someone();
        int b = someone();
        int n = near(1, random.nextInt(4) == 0 ? 98 : 9);
        int what = near(-1, 2);
        due("pay(" + a + "," + b + "," + n + "," + what + ")", bank.pay(a, b, n, what), plain.pay(a, b, n, what));
    }

    private void look() {
        int r = someRod();
        int what = near(0, 7);
        due("rodIs(" + r + "," + what + ")", bank.rodIs(r, what), plain.rodIs(r, what));
        int i = someRibbon();
        what = near(0, 8);
        due("ribbon(" + i + "," + what + ")", bank.ribbon(i, what), plain.ribbon(i, what));
        int p = someone();
        due("balance(" + p + ")", bank.balance(p), plain.balance(p));
        what = near(0, 6);
        due("count(" + what + ")", bank.count(what), plain.count(what));
        int q = someone();
        due("owes(" + p + "," + q + ")", bank.owes(p, q), plain.owes(p, q));
    }

    private void change() {
        int r = someRod();
        int i = someRibbon();
        boolean is = random.nextBoolean();
        int v = near(-9, 9);
        switch (random.nextInt(8)) {
            case 0: due("seen(" + r + "," + is + ")", bank.seen(r, is), plain.seen(r, is)); break;
            case 1: due("wet(" + r + "," + is + ")", bank.wet(r, is), plain.wet(r, is)); break;
            case 2: due("wind(" + v + ")", bank.wind(v), plain.wind(v)); break;
            case 3: due("move(" + i + "," + r + "," + v + ")", bank.move(i, r, v), plain.move(i, r, v)); break;
            case 4:
                if (random.nextInt(4) == 0) {
                    due("fall(" + i + ")", bank.fall(i), plain.fall(i));
                }
                break;
            case 5: newStiff(); break;
            case 6: newRibbon(); break;
            default:
                if (random.nextInt(6) == 0) {
                    newRod();
                }
                break;
        }
    }

    private void keepOrDraw() {
        int n = near(1, random.nextInt(5) == 0 ? 60 : 4);
        int x = near(0, 65535);
        switch (random.nextInt(4)) {
            case 0: due("keep()", bank.keep(), plain.keep()); break;
            case 1: due("undo()", bank.undo(), plain.undo()); break;
            case 2: due("seed(" + x + ")", bank.seed(x), plain.seed(x)); break;
            default: due("draw(" + n + ")", bank.draw(n), plain.draw(n)); break;
        }
    }

    private void askRing() {
        int what = random.nextBoolean() ? -1 : near(-1, 8);
        due("ring(" + what + ")", bank.ring(what), plain.ring(what));
    }

    private void askClear() {
        if (random.nextInt(6) == 0) {
            due("clear()", bank.clear(), plain.clear());
        }
    }

    private void callByTheme() {
        int kind = random.nextInt(4);
        if (theme == DEBTS) {
            switch (kind) {
                case 0: askClear(); break;
                case 1: newRed(); break;
                default: askRing(); break;
            }
        } else if (theme == WHITES) {
            switch (kind) {
                case 0: askPay(); break;
                case 1: askFraud(); break;
                case 2: askRun(); break;
                default: askOrder(); break;
            }
        } else if (theme == PICTURES) {
            switch (kind) {
                case 0: askLevel(); break;
                case 1: askCheck(); break;
                default: askFalse(); break;
            }
        } else {
            change();
        }
    }

    private void call() {
        if (random.nextBoolean()) {
            callByTheme();
            return;
        }
        switch (random.nextInt(16)) {
            case 0: newLaw(); break;
            case 1: askLevel(); break;
            case 2: askFalse(); break;
            case 3: askFraud(); break;
            case 4: askRun(); break;
            case 5: askOrder(); break;
            case 6: askCheck(); break;
            case 7: askPay(); break;
            case 8: case 9: look(); break;
            case 10: keepOrDraw(); break;
            case 11: askRing(); break;
            case 12: askClear(); break;
            default: change(); break;
        }
    }
}
