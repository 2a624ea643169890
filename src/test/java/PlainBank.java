import java.util.ArrayList;
import java.util.Arrays;
import java.util.Collections;
import java.util.HashMap;
import java.util.List;
import java.util.Map;

/**
 * The document's promises in their plainest form: everything is weighed anew for each question and
 * every row of a search is tried. The random runs hold the class against it.
 */
final class PlainBank {
    private static final int NO_ANSWER = -1000000000;

    private static final class Rod {
        int on = -1;
        int arm;
        int stiff = 1;
        boolean seen = true;
        boolean wet;

        Rod copy() {
            Rod r = new Rod();
            r.on = on;
            r.arm = arm;
            r.stiff = stiff;
            r.seen = seen;
            r.wet = wet;
            return r;
        }
    }

    private static final class Ribbon {
        int rod;
        int arm;
        int length;
        int colour;
        int owner;
        int to = -1;
        boolean hangs = true;

        Ribbon copy() {
            Ribbon i = new Ribbon();
            i.rod = rod;
            i.arm = arm;
            i.length = length;
            i.colour = colour;
            i.owner = owner;
            i.to = to;
            i.hangs = hangs;
            return i;
        }
    }

    private List<Rod> rods = new ArrayList<>();
    private List<Ribbon> ribbons = new ArrayList<>();
    private int wind;
    private int x = 1;
    private PlainLaw law = new PlainLaw("");
    private final List<Integer> tape = new ArrayList<>();
    private List<Rod> keptRods;
    private List<Ribbon> keptRibbons;
    private int keptWind;
    private int keptX;

    PlainBank() {
        rods.add(new Rod());
    }

    // what is weighed

    private int g(Ribbon i, int v) {
        return law.answer('g', i.length, i.colour, i.owner, i.arm, i.rod, rods.get(i.rod).wet ? 1 : 0, v);
    }

    private int p(Ribbon i, int v) {
        return law.answer('p', i.length, i.colour, i.owner, i.arm, i.rod, rods.get(i.rod).wet ? 1 : 0, v);
    }

    private int loadOf(int r, int v) {
        int sum = 0;
        for (Ribbon i : ribbons) {
            if (i.hangs && i.rod == r) {
                sum += g(i, v);
            }
        }
        for (int c = r + 1; c < rods.size(); c++) {
            if (rods.get(c).on == r) {
                sum += loadOf(c, v);
            }
        }
        return sum;
    }

    private int momentOf(int r, int v) {
        int sum = 0;
        for (Ribbon i : ribbons) {
            if (i.hangs && i.rod == r) {
                sum += i.arm * g(i, v) + p(i, v);
            }
        }
        for (int c = r + 1; c < rods.size(); c++) {
            if (rods.get(c).on == r) {
                sum += rods.get(c).arm * loadOf(c, v);
            }
        }
        return sum;
    }

    private int leanOf(int r, int v) {
        int lean = momentOf(r, v) / rods.get(r).stiff;
        return Math.min(9, Math.max(-9, lean));
    }

    private List<Integer> leans(int v) {
        List<Integer> all = new ArrayList<>();
        for (int r = 0; r < rods.size(); r++) {
            all.add(leanOf(r, v));
        }
        return all;
    }

    private List<Integer> picture(int v) {
        List<Integer> all = new ArrayList<>();
        for (int r = 0; r < rods.size(); r++) {
            if (rods.get(r).seen) {
                all.add(leanOf(r, v));
            }
        }
        return all;
    }

    private int seenRods() {
        int n = 0;
        for (Rod r : rods) {
            n += r.seen ? 1 : 0;
        }
        return n;
    }

    private boolean hasRod(int r) {
        return r >= 0 && r < rods.size();
    }

    private boolean hasRibbon(int i) {
        return i >= 0 && i < ribbons.size();
    }

    private static boolean reach(int n) {
        return n >= -9 && n <= 9;
    }

    private static boolean person(int p) {
        return p >= 0 && p < 8;
    }

    private List<Integer> take(int n) {
        List<Integer> bytes = new ArrayList<>(tape.subList(0, n));
        tape.clear();
        return bytes;
    }

    // the face

    int rod(int on, int arm) {
        if (!hasRod(on) || !reach(arm) || rods.size() == 10) {
            return -1;
        }
        Rod r = new Rod();
        r.on = on;
        r.arm = arm;
        rods.add(r);
        return rods.size() - 1;
    }

    boolean stiff(int r, int n) {
        if (!hasRod(r) || n < 1 || n > 999) {
            return false;
        }
        rods.get(r).stiff = n;
        return true;
    }

    boolean seen(int r, boolean is) {
        if (!hasRod(r) || rods.get(r).seen == is) {
            return false;
        }
        rods.get(r).seen = is;
        return true;
    }

    boolean wet(int r, boolean is) {
        if (!hasRod(r) || rods.get(r).wet == is) {
            return false;
        }
        rods.get(r).wet = is;
        return true;
    }

    int white(int r, int arm, int length, int owner) {
        if (!hasRod(r) || !reach(arm) || length < 1 || length > 99 || !person(owner) || ribbons.size() == 40) {
            return -1;
        }
        Ribbon i = new Ribbon();
        i.rod = r;
        i.arm = arm;
        i.length = length;
        i.owner = owner;
        ribbons.add(i);
        return ribbons.size() - 1;
    }

    int red(int r, int arm, int length, int owner, int to) {
        if (!person(to) || owner == to) {
            return -1;
        }
        int number = white(r, arm, length, owner);
        if (number >= 0) {
            ribbons.get(number).colour = 1;
            ribbons.get(number).to = to;
        }
        return number;
    }

    boolean wind(int v) {
        if (!reach(v)) {
            return false;
        }
        wind = v;
        return true;
    }

    int feed(int... five) {
        if (tape.size() > 200) {
            return -1;
        }
        for (int number : five) {
            tape.add(number >>> 24);
            tape.add(number >>> 16 & 255);
            tape.add(number >>> 8 & 255);
            tape.add(number & 255);
        }
        return tape.size();
    }

    int law(int n) {
        if (n < 1 || n > 200 || n > tape.size()) {
            return -1;
        }
        StringBuilder text = new StringBuilder();
        for (int b : take(n)) {
            text.append((char) b);
        }
        int fault = PlainLaw.fault(text.toString());
        if (fault != 0) {
            return fault;
        }
        law = new PlainLaw(text.toString());
        return law.clauses.size();
    }

    int rodIs(int r, int what) {
        if (!hasRod(r)) {
            return NO_ANSWER;
        }
        Rod rod = rods.get(r);
        switch (what) {
            case 0: return loadOf(r, wind);
            case 1: return momentOf(r, wind);
            case 2: return leanOf(r, wind);
            case 3: return rod.on;
            case 4: return rod.arm;
            case 5: return rod.stiff;
            case 6: return rod.seen ? 1 : 0;
            case 7: return rod.wet ? 1 : 0;
            default: return NO_ANSWER;
        }
    }

    int ribbon(int number, int what) {
        if (!hasRibbon(number)) {
            return NO_ANSWER;
        }
        Ribbon i = ribbons.get(number);
        switch (what) {
            case 0: return i.rod;
            case 1: return i.arm;
            case 2: return i.length;
            case 3: return i.colour;
            case 4: return i.owner;
            case 5: return i.to;
            case 6: return i.hangs ? 1 : 0;
            case 7: return g(i, wind);
            case 8: return p(i, wind);
            default: return NO_ANSWER;
        }
    }

    int balance(int p) {
        if (!person(p)) {
            return NO_ANSWER;
        }
        int sum = 0;
        for (Ribbon i : ribbons) {
            if (i.hangs && i.colour == 0 && i.owner == p || i.hangs && i.colour == 1 && i.to == p) {
                sum += i.length;
            }
            if (i.hangs && i.colour == 1 && i.owner == p) {
                sum -= i.length;
            }
        }
        return sum;
    }

    boolean move(int number, int r, int arm) {
        if (!hasRibbon(number) || !hasRod(r) || !reach(arm) || !ribbons.get(number).hangs) {
            return false;
        }
        ribbons.get(number).rod = r;
        ribbons.get(number).arm = arm;
        return true;
    }

    boolean fall(int number) {
        if (!hasRibbon(number) || !ribbons.get(number).hangs) {
            return false;
        }
        ribbons.get(number).hangs = false;
        return true;
    }

    private boolean canPay(Ribbon i, Ribbon j, int a, int b, int n) {
        return i.hangs && j.hangs && i.colour == 0 && j.colour == 0 && i.owner == a && j.owner == b
                && i.length - n >= 1 && j.length + n <= 99;
    }

    int pay(int a, int b, int n, int what) {
        if (!person(a) || !person(b) || a == b || n < 1 || n > 98 || what < -1 || what > 2) {
            return -3;
        }
        List<Integer> before = leans(wind);
        int least = Integer.MAX_VALUE;
        int first = -1;
        int second = -1;
        for (int i = 0; i < ribbons.size(); i++) {
            for (int j = 0; j < ribbons.size(); j++) {
                if (canPay(ribbons.get(i), ribbons.get(j), a, b, n)) {
                    ribbons.get(i).length -= n;
                    ribbons.get(j).length += n;
                    List<Integer> after = leans(wind);
                    ribbons.get(i).length += n;
                    ribbons.get(j).length -= n;
                    int others = 0;
                    for (int r = 0; r < rods.size(); r++) {
                        others += before.get(r).equals(after.get(r)) ? 0 : 1;
                    }
                    if (others < least) {
                        least = others;
                        first = i;
                        second = j;
                    }
                }
            }
        }
        if (first < 0) {
            return -2;
        }
        if (what == 2) {
            ribbons.get(first).length -= n;
            ribbons.get(second).length += n;
        }
        return what == 0 ? first : what == 1 ? second : least;
    }

    /** All rows of different numbers below n, the least first. */
    static List<List<Integer>> rows(List<Integer> of) {
        if (of.isEmpty()) {
            return Collections.singletonList(new ArrayList<>());
        }
        List<List<Integer>> all = new ArrayList<>();
        for (Integer one : of) {
            List<Integer> others = new ArrayList<>(of);
            others.remove(one);
            for (List<Integer> rest : rows(others)) {
                List<Integer> row = new ArrayList<>();
                row.add(one);
                row.addAll(rest);
                all.add(row);
            }
        }
        return all;
    }

    private static List<Integer> firstNumbers(int n) {
        List<Integer> all = new ArrayList<>();
        for (int k = 0; k < n; k++) {
            all.add(k);
        }
        return all;
    }

    int level(int n, int what) {
        if (n < 1 || n > 6 || what < -1 || what > 6 || what != 6 && what >= n || tape.size() < 3 * n) {
            return -3;
        }
        List<Integer> bytes = take(3 * n);
        List<Integer> told = new ArrayList<>();
        List<List<Integer>> places = new ArrayList<>();
        for (int k = 0; k < n; k++) {
            int i = bytes.get(3 * k);
            int r = bytes.get(3 * k + 1);
            int arm = bytes.get(3 * k + 2) - 9;
            List<Integer> place = Arrays.asList(r, arm);
            if (!hasRibbon(i) || !ribbons.get(i).hangs || !hasRod(r) || !reach(arm)
                    || told.contains(i) || places.contains(place)) {
                return -2;
            }
            told.add(i);
            places.add(place);
        }
        List<Ribbon> before = new ArrayList<>();
        for (int i : told) {
            before.add(ribbons.get(i).copy());
        }
        int least = Integer.MAX_VALUE;
        List<Integer> best = null;
        for (List<Integer> row : rows(firstNumbers(n))) {
            hang(told, places, row);
            int sum = 0;
            for (int lean : leans(wind)) {
                sum += Math.abs(lean);
            }
            if (sum < least) {
                least = sum;
                best = row;
            }
        }
        if (what == 6) {
            hang(told, places, best);
        } else {
            for (int k = 0; k < n; k++) {
                ribbons.set(told.get(k), before.get(k));
            }
        }
        return what >= 0 && what < n ? best.get(what) : least;
    }

    private void hang(List<Integer> told, List<List<Integer>> places, List<Integer> row) {
        for (int k = 0; k < told.size(); k++) {
            ribbons.get(told.get(k)).rod = places.get(row.get(k)).get(0);
            ribbons.get(told.get(k)).arm = places.get(row.get(k)).get(1);
        }
    }

    private static List<Integer> lessNine(List<Integer> bytes) {
        List<Integer> all = new ArrayList<>();
        for (int b : bytes) {
            if (b > 18) {
                return null;
            }
            all.add(b - 9);
        }
        return all;
    }

    private List<Integer> falseLengths(int number, List<Integer> told) {
        List<Integer> all = new ArrayList<>();
        Ribbon i = ribbons.get(number);
        int was = i.length;
        for (int length = 1; length <= 99 && i.hangs; length++) {
            i.length = length;
            if (length != was && picture(wind).equals(told)) {
                all.add(length);
            }
        }
        i.length = was;
        return all;
    }

    int falseBy(int number) {
        if (!hasRibbon(number) || tape.size() < seenRods()) {
            return -1;
        }
        List<Integer> told = lessNine(take(seenRods()));
        return told == null ? -2 : falseLengths(number, told).size();
    }

    long suspects() {
        if (tape.size() < seenRods()) {
            return -1;
        }
        List<Integer> told = lessNine(take(seenRods()));
        if (told == null) {
            return -2;
        }
        long bits = 0;
        for (int i = 0; i < ribbons.size(); i++) {
            if (!falseLengths(i, told).isEmpty()) {
                bits |= 1L << i;
            }
        }
        return bits;
    }

    int gust(int n, int what) {
        if (n < 1 || n > 6 || what < 0 || what > 1 || tape.size() < seenRods() + n) {
            return -1;
        }
        List<Integer> all = lessNine(take(seenRods() + n));
        if (all == null) {
            return -2;
        }
        List<Integer> told = all.subList(0, seenRods());
        List<Integer> winds = all.subList(seenRods(), seenRods() + n);
        int fewest = Integer.MAX_VALUE;
        int best = 0;
        List<List<Integer>> lengths = new ArrayList<>();
        for (int i = 0; i < ribbons.size(); i++) {
            lengths.add(falseLengths(i, told));
        }
        for (int v : winds) {
            Map<List<Integer>, Integer> crowds = new HashMap<>();
            for (int i = 0; i < ribbons.size(); i++) {
                int was = ribbons.get(i).length;
                for (int length : lengths.get(i)) {
                    ribbons.get(i).length = length;
                    crowds.merge(picture(v), 1, Integer::sum);
                }
                ribbons.get(i).length = was;
            }
            if (crowds.isEmpty()) {
                return -3;
            }
            int most = Collections.max(crowds.values());
            if (most < fewest) {
                fewest = most;
                best = v;
            }
        }
        return what == 0 ? best + 9 : fewest;
    }

    int fraud(int a, int b, int n, int what) {
        if (!person(a) || !person(b) || a == b || n < 1 || n > 6 || what < 0 || what > 2 || tape.size() < n) {
            return -1;
        }
        List<Integer> winds = lessNine(take(n));
        if (winds == null) {
            return -2;
        }
        List<List<Integer>> before = new ArrayList<>();
        for (int v : winds) {
            before.add(picture(v));
        }
        for (int much = 98; much >= 1; much--) {
            for (int i = 0; i < ribbons.size(); i++) {
                for (int j = 0; j < ribbons.size(); j++) {
                    if (canPay(ribbons.get(i), ribbons.get(j), a, b, much)) {
                        ribbons.get(i).length -= much;
                        ribbons.get(j).length += much;
                        boolean same = true;
                        for (int d = 0; d < n && same; d++) {
                            same = picture(winds.get(d)).equals(before.get(d));
                        }
                        ribbons.get(i).length += much;
                        ribbons.get(j).length -= much;
                        if (same) {
                            return what == 0 ? much : what == 1 ? i : j;
                        }
                    }
                }
            }
        }
        return -2;
    }

    int owes(int a, int b) {
        if (!person(a) || !person(b) || a == b) {
            return -1;
        }
        int sum = 0;
        for (Ribbon i : ribbons) {
            if (i.hangs && i.colour == 1 && i.owner == a && i.to == b) {
                sum += i.length;
            }
        }
        return sum;
    }

    private List<Integer> bestRing;
    private int bestCut;

    private void findRing() {
        bestRing = null;
        bestCut = 0;
        int[][] debts = new int[8][8];
        for (int a = 0; a < 8; a++) {
            for (int b = 0; b < 8; b++) {
                debts[a][b] = owes(a, b);
            }
        }
        // by size and then by row, so that only more cut is better
        for (int size = 2; size <= 8; size++) {
            for (int first = 0; first < 8; first++) {
                extend(new ArrayList<>(Collections.singletonList(first)), size, debts);
            }
        }
    }

    private void extend(List<Integer> row, int size, int[][] debts) {
        if (row.size() == size) {
            int least = Integer.MAX_VALUE;
            for (int k = 0; k < size; k++) {
                least = Math.min(least, debts[row.get(k)][row.get((k + 1) % size)]);
            }
            if (least * size > bestCut) {
                bestCut = least * size;
                bestRing = new ArrayList<>(row);
            }
            return;
        }
        for (int p = row.get(0) + 1; p < 8; p++) {
            if (!row.contains(p) && debts[row.get(row.size() - 1)][p] > 0) {
                row.add(p);
                extend(row, size, debts);
                row.remove(row.size() - 1);
            }
        }
    }

    int ring(int what) {
        if (what < -1 || what > 8) {
            return -1;
        }
        findRing();
        if (bestRing == null) {
            return -2;
        }
        if (what == -1) {
            return bestCut;
        }
        if (what == 8) {
            return bestRing.size();
        }
        return what >= 0 && what < bestRing.size() ? bestRing.get(what) : -1;
    }

    int clear() {
        int together = 0;
        findRing();
        while (bestRing != null) {
            together += bestCut;
            int size = bestRing.size();
            for (int k = 0; k < size; k++) {
                int left = bestCut / size;
                for (Ribbon i : ribbons) {
                    if (i.hangs && i.colour == 1 && i.owner == bestRing.get(k)
                            && i.to == bestRing.get((k + 1) % size)) {
                        int part = Math.min(left, i.length);
                        i.length -= part;
                        left -= part;
                        if (i.length == 0) {
                            i.hangs = false;
                        }
                    }
                }
            }
            findRing();
        }
        return together;
    }

    /** Who gets his, and how much. */
    private int[] rush(List<Integer> people, int limit) {
        List<Ribbon> before = ribbons;
        ribbons = copyRibbons(ribbons);
        int bits = 0;
        int sum = 0;
        for (int p : people) {
            if (Math.abs(leanOf(0, wind)) > limit) {
                break;
            }
            bits |= 1 << p;
            for (Ribbon i : ribbons) {
                if (i.hangs && i.colour == 0 && i.owner == p) {
                    sum += i.length;
                    i.hangs = false;
                }
            }
        }
        ribbons = before;
        return new int[] {bits, sum};
    }

    int run(int n, int limit, int what) {
        if (n < 1 || n > 8 || limit < 0 || limit > 9 || what < 0 || what > 1 || tape.size() < n) {
            return -1;
        }
        List<Integer> people = new ArrayList<>();
        for (int p : take(n)) {
            if (!person(p) || people.contains(p)) {
                return -2;
            }
            people.add(p);
        }
        return rush(people, limit)[what];
    }

    int order(int people, int limit, int what) {
        if (people < 1 || people > 255 || limit < 0 || limit > 9 || what < -1 || what >= Integer.bitCount(people)) {
            return -1;
        }
        List<Integer> some = new ArrayList<>();
        for (int p = 0; p < 8; p++) {
            if ((people >> p & 1) != 0) {
                some.add(p);
            }
        }
        int most = -1;
        List<Integer> best = null;
        for (List<Integer> row : rows(some)) {
            int sum = rush(row, limit)[1];
            if (sum > most) {
                most = sum;
                best = row;
            }
        }
        return what == -1 ? most : best.get(what);
    }

    boolean seed(int s) {
        if (s < 0 || s > 65535) {
            return false;
        }
        x = s;
        return true;
    }

    int draw(int n) {
        if (n < 1 || n > 60) {
            return -1;
        }
        int days = 0;
        for (int d = 0; d < n; d++) {
            x = (int) ((25173L * x + 13849L) % 65536L);
            wind = x % 19 - 9;
            boolean leans = false;
            for (int lean : picture(wind)) {
                leans |= lean != 0;
            }
            days += leans ? 1 : 0;
        }
        return days;
    }

    private static List<Rod> copyRods(List<Rod> all) {
        List<Rod> copies = new ArrayList<>();
        for (Rod r : all) {
            copies.add(r.copy());
        }
        return copies;
    }

    private static List<Ribbon> copyRibbons(List<Ribbon> all) {
        List<Ribbon> copies = new ArrayList<>();
        for (Ribbon i : all) {
            copies.add(i.copy());
        }
        return copies;
    }

    int keep() {
        keptRods = copyRods(rods);
        keptRibbons = copyRibbons(ribbons);
        keptWind = wind;
        keptX = x;
        return count(6);
    }

    boolean undo() {
        if (keptRods == null) {
            return false;
        }
        rods = copyRods(keptRods);
        ribbons = copyRibbons(keptRibbons);
        wind = keptWind;
        x = keptX;
        return true;
    }

    int check(int n) {
        if (n < 0 || 4L * n > tape.size()) {
            return -2;
        }
        List<Integer> bytes = take(4 * n);
        for (int k = 0; k < n; k++) {
            int number = bytes.get(4 * k) << 24 | bytes.get(4 * k + 1) << 16 | bytes.get(4 * k + 2) << 8
                    | bytes.get(4 * k + 3);
            if (k >= rods.size() || number != leanOf(k, wind)) {
                return k;
            }
        }
        return n < rods.size() ? n : -1;
    }

    int count(int what) {
        int hang = 0;
        for (Ribbon i : ribbons) {
            hang += i.hangs ? 1 : 0;
        }
        int[] all = {rods.size(), ribbons.size(), law.clauses.size(), tape.size(), x, wind + 9, hang};
        return what >= 0 && what < all.length ? all[what] : -1;
    }
}
