/**
 * A bank in a bell tower whose ledger is ribbons on rods that hang on rods.
 *
 * <p>The document's promises are kept by the public methods here; each hands its work to one of
 * the classes inside: the tape, the ledger, the law and its reader, the scale, and one class for
 * each kind of search. All rows are made once and used again: no call makes anything but the first
 * gust, which makes the two long rows.
 */
public final class BellRibbons {
    public static final int NONE = -1;

    private static final int CANNOT = -2;
    private static final int NO_SUCH = -3;
    private static final int NO_ANSWER = -1000000000;

    private static final int MOST_RODS = 10;
    private static final int MOST_RIBBONS = 40;
    private static final int MOST_PEOPLE = 8;
    private static final int MOST_LENGTH = 99;
    private static final int MOST_STIFF = 999;
    private static final int REACH = 9;
    private static final int MOST_TOLD = 6;
    private static final int MOST_DAYS = 60;
    private static final int SEEDS = 65536;
    private static final int WINDS = 19;
    private static final int LEVEL_DONE = 6;
    private static final int RING_SIZE = 8;

    private static final int WHITE = 0;
    private static final int RED = 1;

    private final Tape tape = new Tape();
    private final Ledger ledger = new Ledger();
    private final Ledger kept = new Ledger();
    private final Law law = new Law();
    private final LawReader reader = new LawReader(tape);
    private final Scale scale = new Scale(ledger, law);
    private final Payments payments = new Payments(ledger, law);
    private final Leveller leveller = new Leveller(ledger, law, scale);
    private final Watcher watcher = new Watcher(ledger, law, scale);
    private final Debts debts = new Debts(ledger);
    private final Rush rush = new Rush(ledger, scale);
    private boolean isKept;

    public BellRibbons() {
        ledger.addRod(NONE, 0);
        ledger.x = 1;
    }

    public int rod(int on, int arm) {
        if (!ledger.hasRod(on) || !reaches(arm) || ledger.rods >= MOST_RODS) {
            return NONE;
        }
        return ledger.addRod(on, arm);
    }

    public boolean stiff(int r, int n) {
        if (!ledger.hasRod(r) || !within(1, n, MOST_STIFF)) {
            return false;
        }
        ledger.stiff[r] = n;
        return true;
    }

    public boolean seen(int r, boolean is) {
        if (!ledger.hasRod(r) || ledger.seen[r] == is) {
            return false;
        }
        ledger.seen[r] = is;
        return true;
    }

    public boolean wet(int r, boolean is) {
        if (!ledger.hasRod(r) || ledger.wet[r] == is) {
            return false;
        }
        ledger.wet[r] = is;
        return true;
    }

    public int white(int r, int arm, int length, int owner) {
        if (!mayHang(r, arm, length, owner)) {
            return NONE;
        }
        return ledger.addRibbon(r, arm, length, WHITE, owner, NONE);
    }

    public int red(int r, int arm, int length, int owner, int to) {
        if (!mayHang(r, arm, length, owner) || !areTwo(owner, to)) {
            return NONE;
        }
        return ledger.addRibbon(r, arm, length, RED, owner, to);
    }

    public boolean wind(int v) {
        if (!reaches(v)) {
            return false;
        }
        ledger.wind = v;
        return true;
    }

    public int feed(int a, int b, int c, int d, int e) {
        if (!tape.hasRoom()) {
            return NONE;
        }
        tape.add(a);
        tape.add(b);
        tape.add(c);
        tape.add(d);
        tape.add(e);
        return tape.size;
    }

    public int law(int n) {
        if (!within(1, n, Law.MOST_TEXT) || tape.size < n) {
            return NONE;
        }
        int fault = reader.read(n);
        tape.empty();
        if (fault != 0) {
            return fault;
        }
        law.copyFrom(reader.draft);
        return law.clauses;
    }

    public int rodIs(int r, int what) {
        if (!ledger.hasRod(r) || !within(0, what, 7)) {
            return NO_ANSWER;
        }
        if (what <= 2) {
            scale.weigh(ledger.wind);
        }
        switch (what) {
            case 0: return scale.load[r];
            case 1: return scale.moment[r];
            case 2: return scale.lean(r);
            case 3: return ledger.on[r];
            case 4: return ledger.rodArm[r];
            case 5: return ledger.stiff[r];
            case 6: return ledger.seen[r] ? 1 : 0;
            default: return ledger.wet[r] ? 1 : 0;
        }
    }

    public int ribbon(int i, int what) {
        if (!ledger.hasRibbon(i) || !within(0, what, 8)) {
            return NO_ANSWER;
        }
        if (what >= 7) {
            law.look(ledger, i, ledger.length[i], ledger.wind);
        }
        switch (what) {
            case 0: return ledger.rod[i];
            case 1: return ledger.arm[i];
            case 2: return ledger.length[i];
            case 3: return ledger.colour[i];
            case 4: return ledger.owner[i];
            case 5: return ledger.to[i];
            case 6: return ledger.hangs[i] ? 1 : 0;
            case 7: return law.ask(Law.HEAVY);
            default: return law.ask(Law.PUSHED);
        }
    }

    public int balance(int p) {
        return isPerson(p) ? ledger.balanceOf(p) : NO_ANSWER;
    }

    public boolean move(int i, int r, int arm) {
        if (!ledger.isHanging(i) || !ledger.hasRod(r) || !reaches(arm)) {
            return false;
        }
        ledger.rod[i] = r;
        ledger.arm[i] = arm;
        return true;
    }

    public boolean fall(int i) {
        if (!ledger.isHanging(i)) {
            return false;
        }
        ledger.hangs[i] = false;
        return true;
    }

    public int pay(int a, int b, int n, int what) {
        if (!areTwo(a, b) || !within(1, n, MOST_LENGTH - 1) || !within(NONE, what, 2)) {
            return NO_SUCH;
        }
        if (!payments.findPayment(a, b, n)) {
            return CANNOT;
        }
        if (what == 0) {
            return payments.first;
        }
        if (what == 1) {
            return payments.second;
        }
        if (what == 2) {
            payments.carryOut(n);
        }
        return payments.others;
    }

    public int level(int n, int what) {
        boolean isWhat = what == NONE || what == LEVEL_DONE || within(0, what, n - 1);
        if (!within(1, n, MOST_TOLD) || !isWhat || tape.size < 3 * n) {
            return NO_SUCH;
        }
        boolean isTold = leveller.read(tape, n);
        tape.empty();
        if (!isTold) {
            return CANNOT;
        }
        leveller.search();
        if (what == LEVEL_DONE) {
            leveller.hang();
        }
        return within(0, what, n - 1) ? leveller.best[what] : leveller.least;
    }

    public int falseBy(int i) {
        if (!ledger.hasRibbon(i) || tape.size < ledger.seenRods()) {
            return NONE;
        }
        boolean isTold = watcher.readPicture(tape);
        tape.empty();
        return isTold ? watcher.falseLengths(i) : CANNOT;
    }

    public long suspects() {
        if (tape.size < ledger.seenRods()) {
            return NONE;
        }
        boolean isTold = watcher.readPicture(tape);
        tape.empty();
        return isTold ? watcher.suspectBits() : CANNOT;
    }

    public int gust(int n, int what) {
        if (!within(1, n, MOST_TOLD) || !within(0, what, 1) || tape.size < ledger.seenRods() + n) {
            return NONE;
        }
        boolean isTold = watcher.readPicture(tape) && tape.allWithin(ledger.seenRods(), n, 2 * REACH);
        int answer = CANNOT;
        if (isTold && watcher.collectCases() == 0) {
            answer = NO_SUCH;
        } else if (isTold) {
            watcher.findGust(tape, n);
            answer = what == 0 ? watcher.gustWind + REACH : watcher.gustCrowd;
        }
        tape.empty();
        return answer;
    }

    public int fraud(int a, int b, int n, int what) {
        if (!areTwo(a, b) || !within(1, n, MOST_TOLD) || !within(0, what, 2) || tape.size < n) {
            return NONE;
        }
        int most = tape.allWithin(0, n, 2 * REACH) ? payments.findFraud(a, b, tape, n) : 0;
        tape.empty();
        if (most == 0) {
            return CANNOT;
        }
        return what == 0 ? most : what == 1 ? payments.first : payments.second;
    }

    public int owes(int a, int b) {
        return areTwo(a, b) ? ledger.debt(a, b) : NONE;
    }

    public int ring(int what) {
        // what no ring could have is refused before one is looked for
        if (!within(NONE, what, RING_SIZE)) {
            return NONE;
        }
        if (!debts.findBest()) {
            return CANNOT;
        }
        if (what == NONE) {
            return debts.cut;
        }
        if (what == RING_SIZE) {
            return debts.people;
        }
        return within(0, what, debts.people - 1) ? debts.best[what] : NONE;
    }

    public int clear() {
        return debts.cutAll();
    }

    public int run(int n, int limit, int what) {
        boolean isAsked = within(1, n, MOST_PEOPLE) && within(0, limit, REACH) && within(0, what, 1);
        if (!isAsked || tape.size < n) {
            return NONE;
        }
        boolean isTold = rush.readPeople(tape, n);
        tape.empty();
        if (!isTold) {
            return CANNOT;
        }
        rush.happen(n, limit);
        return what == 0 ? rush.served : rush.got;
    }

    public int order(int people, int limit, int what) {
        boolean isAsked = within(1, people, (1 << MOST_PEOPLE) - 1) && within(0, limit, REACH);
        if (!isAsked || !within(NONE, what, Integer.bitCount(people) - 1)) {
            return NONE;
        }
        rush.findBest(people, limit);
        return what == NONE ? rush.most() : rush.personAt(people, what);
    }

    public boolean seed(int x) {
        if (!within(0, x, SEEDS - 1)) {
            return false;
        }
        ledger.x = x;
        return true;
    }

    public int draw(int n) {
        if (!within(1, n, MOST_DAYS)) {
            return NONE;
        }
        int leaning = 0;
        for (int day = 0; day < n; day++) {
            ledger.x = (25173 * ledger.x + 13849) & (SEEDS - 1);
            ledger.wind = ledger.x % WINDS - REACH;
            scale.weigh(ledger.wind);
            if (scale.isSeenToLean()) {
                leaning++;
            }
        }
        return leaning;
    }

    public int keep() {
        kept.copyFrom(ledger);
        isKept = true;
        return ledger.hanging();
    }

    public boolean undo() {
        if (!isKept) {
            return false;
        }
        ledger.copyFrom(kept);
        return true;
    }

    public int check(int n) {
        if (n < 0 || n > tape.size / 4) {
            return CANNOT;
        }
        scale.weigh(ledger.wind);
        int right = 0;
        while (right < n && right < ledger.rods && tape.numberAt(right) == scale.lean(right)) {
            right++;
        }
        tape.empty();
        return right == n && n == ledger.rods ? NONE : right;
    }

    public int count(int what) {
        switch (what) {
            case 0: return ledger.rods;
            case 1: return ledger.ribbons;
            case 2: return law.clauses;
            case 3: return tape.size;
            case 4: return ledger.x;
            case 5: return ledger.wind + REACH;
            case 6: return ledger.hanging();
            default: return NONE;
        }
    }

    private boolean mayHang(int r, int arm, int length, int owner) {
        return ledger.hasRod(r) && reaches(arm) && within(1, length, MOST_LENGTH)
                && isPerson(owner) && ledger.ribbons < MOST_RIBBONS;
    }

    private static boolean within(int low, int n, int high) {
        return low <= n && n <= high;
    }

    private static boolean reaches(int n) {
        return within(-REACH, n, REACH);
    }

    private static boolean isPerson(int p) {
        return within(0, p, MOST_PEOPLE - 1);
    }

    private static boolean areTwo(int a, int b) {
        return isPerson(a) && isPerson(b) && a != b;
    }

    private static int leanOf(int moment, int stiff) {
        int lean = stiff < 1 ? 0 : moment / stiff;
        return Math.max(-REACH, Math.min(REACH, lean));
    }

    /** Bytes that wait for the call that reads them. */
    private static final class Tape {
        private static final int MOST_BYTES = 220;
        private static final int FED_AT_ONCE = 20;

        private final int[] bytes = new int[MOST_BYTES];
        private int size;

        boolean hasRoom() {
            return size + FED_AT_ONCE <= MOST_BYTES;
        }

        void add(int number) {
            for (int shift = 24; shift >= 0 && size < MOST_BYTES; shift -= 8) {
                bytes[size] = number >> shift & 255;
                size++;
            }
        }

        void empty() {
            size = 0;
        }

        int byteAt(int place) {
            return place >= 0 && place < size ? bytes[place] : NONE;
        }

        int numberAt(int place) {
            int number = 0;
            for (int k = 0; k < 4; k++) {
                number = number << 8 | byteAt(4 * place + k) & 255;
            }
            return number;
        }

        boolean allWithin(int from, int n, int most) {
            for (int k = 0; k < n; k++) {
                if (!within(0, byteAt(from + k), most)) {
                    return false;
                }
            }
            return true;
        }
    }

    /** All that is kept and undone: rods, ribbons, the wind and the number that days are drawn by. */
    private static final class Ledger {
        private final int[] on = new int[MOST_RODS];
        private final int[] rodArm = new int[MOST_RODS];
        private final int[] stiff = new int[MOST_RODS];
        private final boolean[] seen = new boolean[MOST_RODS];
        private final boolean[] wet = new boolean[MOST_RODS];
        private final int[] rod = new int[MOST_RIBBONS];
        private final int[] arm = new int[MOST_RIBBONS];
        private final int[] length = new int[MOST_RIBBONS];
        private final int[] colour = new int[MOST_RIBBONS];
        private final int[] owner = new int[MOST_RIBBONS];
        private final int[] to = new int[MOST_RIBBONS];
        private final boolean[] hangs = new boolean[MOST_RIBBONS];
        private int rods;
        private int ribbons;
        private int wind;
        private int x;

        int addRod(int onRod, int atArm) {
            if (rods >= MOST_RODS) {
                return NONE;
            }
            on[rods] = onRod;
            rodArm[rods] = atArm;
            stiff[rods] = 1;
            seen[rods] = true;
            wet[rods] = false;
            rods++;
            return rods - 1;
        }

        int addRibbon(int onRod, int atArm, int itsLength, int ofColour, int ofOwner, int owedTo) {
            if (ribbons >= MOST_RIBBONS) {
                return NONE;
            }
            rod[ribbons] = onRod;
            arm[ribbons] = atArm;
            length[ribbons] = itsLength;
            colour[ribbons] = ofColour;
            owner[ribbons] = ofOwner;
            to[ribbons] = owedTo;
            hangs[ribbons] = true;
            ribbons++;
            return ribbons - 1;
        }

        boolean hasRod(int r) {
            return r >= 0 && r < rods;
        }

        boolean hasRibbon(int i) {
            return i >= 0 && i < ribbons;
        }

        boolean isHanging(int i) {
            return hasRibbon(i) && hangs[i];
        }

        boolean isWhiteOf(int i, int person) {
            return hasRibbon(i) && hangs[i] && colour[i] == WHITE && owner[i] == person;
        }

        boolean isDebt(int i, int a, int b) {
            return hasRibbon(i) && hangs[i] && colour[i] == RED && owner[i] == a && to[i] == b;
        }

        int hanging() {
            int n = 0;
            for (int i = 0; i < ribbons; i++) {
                if (hangs[i]) {
                    n++;
                }
            }
            return n;
        }

        int seenRods() {
            int n = 0;
            for (int r = 0; r < rods; r++) {
                if (seen[r]) {
                    n++;
                }
            }
            return n;
        }

        int balanceOf(int person) {
            int sum = 0;
            for (int i = 0; i < ribbons; i++) {
                if (!hangs[i]) {
                    continue;
                }
                if (owner[i] == person) {
                    sum += colour[i] == WHITE ? length[i] : -length[i];
                } else if (to[i] == person) {
                    sum += length[i];
                }
            }
            return sum;
        }

        int debt(int a, int b) {
            int sum = 0;
            for (int i = 0; i < ribbons; i++) {
                if (isDebt(i, a, b)) {
                    sum += length[i];
                }
            }
            return sum;
        }

        void cutDebt(int a, int b, int much) {
            int left = much;
            for (int i = 0; i < ribbons && left > 0; i++) {
                if (isDebt(i, a, b)) {
                    int part = Math.min(left, length[i]);
                    length[i] -= part;
                    left -= part;
                    hangs[i] = length[i] > 0;
                }
            }
        }

        void copyFrom(Ledger other) {
            System.arraycopy(other.on, 0, on, 0, MOST_RODS);
            System.arraycopy(other.rodArm, 0, rodArm, 0, MOST_RODS);
            System.arraycopy(other.stiff, 0, stiff, 0, MOST_RODS);
            System.arraycopy(other.seen, 0, seen, 0, MOST_RODS);
            System.arraycopy(other.wet, 0, wet, 0, MOST_RODS);
            System.arraycopy(other.rod, 0, rod, 0, MOST_RIBBONS);
            System.arraycopy(other.arm, 0, arm, 0, MOST_RIBBONS);
            System.arraycopy(other.length, 0, length, 0, MOST_RIBBONS);
            System.arraycopy(other.colour, 0, colour, 0, MOST_RIBBONS);
            System.arraycopy(other.owner, 0, owner, 0, MOST_RIBBONS);
            System.arraycopy(other.to, 0, to, 0, MOST_RIBBONS);
            System.arraycopy(other.hangs, 0, hangs, 0, MOST_RIBBONS);
            rods = other.rods;
            ribbons = other.ribbons;
            wind = other.wind;
            x = other.x;
        }
    }

    /**
     * The law as code for a stack of ints. Conditions stand in one flag instead of the stack,
     * since a jump passes over whatever no longer matters.
     */
    private static final class Law {
        private static final int MOST_TEXT = 200;
        private static final int MOST_CLAUSES = 14;
        private static final int MOST_HEAVY = 999;
        private static final int MOST_PUSH = 9999;
        // six brackets leave at most sixteen values open at once
        private static final int STACK_ROOM = 32;

        private static final int HEAVY = 'g';
        private static final int PUSHED = 'p';

        private static final int END = 0;
        private static final int NUMBER = 1;
        private static final int FACT = 2;
        private static final int NOT = 3;
        private static final int SKIP_IF = 4;
        private static final int SKIP_UNLESS = 5;

        private static final int LENGTH_FACT = 0;

        // an operation of two values is its own sign; the others are the numbers above
        private final int[] code = new int[MOST_TEXT];
        private final int[] operand = new int[MOST_TEXT];
        private final int[] letter = new int[MOST_CLAUSES];
        private final int[] amountAt = new int[MOST_CLAUSES];
        private final int[] conditionAt = new int[MOST_CLAUSES];
        private final int[] facts = new int[7];
        private final int[] stack = new int[STACK_ROOM];
        private int size;
        private int clauses;
        private int top;
        private boolean holds;
        private boolean refused;

        void look(Ledger ledger, int i, int length, int wind) {
            if (ledger.hasRibbon(i)) {
                lookAt(ledger, i, length, ledger.rod[i], ledger.arm[i], wind);
            }
        }

        /** The facts of a ribbon, as if it were so long, hung there and the wind were so. */
        void lookAt(Ledger ledger, int i, int length, int rod, int arm, int wind) {
            if (!ledger.hasRibbon(i) || !ledger.hasRod(rod)) {
                return;
            }
            facts[LENGTH_FACT] = length;
            facts[1] = ledger.colour[i];
            facts[2] = ledger.owner[i];
            facts[3] = arm;
            facts[4] = rod;
            facts[5] = ledger.wet[rod] ? 1 : 0;
            facts[6] = wind;
        }

        /** Where the fact of a letter stands, or NONE. */
        static int factOf(int sign) {
            switch (sign) {
                case 'l': return LENGTH_FACT;
                case 'c': return 1;
                case 'o': return 2;
                case 'a': return 3;
                case 'r': return 4;
                case 'w': return 5;
                case 'v': return 6;
                default: return NONE;
            }
        }

        /** How heavy what was looked at is (HEAVY), or by how much the wind pushes it (PUSHED). */
        int ask(int sign) {
            boolean isWeight = sign == HEAVY;
            for (int k = 0; k < clauses && k < MOST_CLAUSES; k++) {
                if (letter[k] == sign) {
                    reckon(conditionAt[k]);
                    if (holds && !refused) {
                        reckon(amountAt[k]);
                        int amount = refused || top < 1 ? 0 : stack[0];
                        return isWeight ? Math.max(0, Math.min(MOST_HEAVY, amount))
                                : Math.max(-MOST_PUSH, Math.min(MOST_PUSH, amount));
                    }
                }
            }
            return isWeight ? facts[LENGTH_FACT] : 0;
        }

        /** Works the code from start to its end; jumps go ahead only. */
        private void reckon(int start) {
            top = 0;
            holds = false;
            refused = false;
            for (int at = Math.max(0, start); at < size && at < MOST_TEXT; at++) {
                int operation = code[at];
                if (operation == END || refused) {
                    return;
                }
                if (operation == NUMBER) {
                    put(operand[at]);
                } else if (operation == FACT) {
                    put(within(0, operand[at], 6) ? facts[operand[at]] : 0);
                } else if (operation == NOT) {
                    holds = !holds;
                } else if (operation == SKIP_IF || operation == SKIP_UNLESS) {
                    if (holds == (operation == SKIP_IF)) {
                        at = Math.max(at, operand[at] - 1);
                    }
                } else if (operation == '<' || operation == '>' || operation == '=') {
                    compare(operation);
                } else {
                    combine(operation);
                }
            }
        }

        private void put(int value) {
            if (top >= 0 && top < STACK_ROOM) {
                stack[top] = value;
                top++;
            }
        }

        private void combine(int sign) {
            if (top < 2 || top > STACK_ROOM) {
                return;
            }
            top--;
            int left = stack[top - 1];
            int right = stack[top];
            if (sign == '+') {
                stack[top - 1] = left + right;
            } else if (sign == '-') {
                stack[top - 1] = left - right;
            } else if (sign == '*') {
                stack[top - 1] = left * right;
            } else if (right == 0) {
                refused = true;
            } else {
                stack[top - 1] = sign == '/' ? left / right : left % right;
            }
        }

        private void compare(int sign) {
            if (top < 2 || top > STACK_ROOM) {
                return;
            }
            top -= 2;
            int left = stack[top];
            int right = stack[top + 1];
            holds = sign == '<' ? left < right : sign == '>' ? left > right : left == right;
        }

        void forget() {
            size = 0;
            clauses = 0;
        }

        void startClause(int sign) {
            if (clauses < MOST_CLAUSES) {
                letter[clauses] = sign;
                amountAt[clauses] = size;
                clauses++;
            }
        }

        void startCondition() {
            emit(END, 0);
            if (clauses > 0 && clauses <= MOST_CLAUSES) {
                conditionAt[clauses - 1] = size;
            }
        }

        void emit(int operation, int value) {
            if (size < MOST_TEXT) {
                code[size] = operation;
                operand[size] = value;
                size++;
            }
        }

        /** A jump whose aim is not known yet: till then it tells the jump before it in the chain. */
        int emitJump(int operation, int chain) {
            emit(operation, chain);
            return size - 1;
        }

        /** All jumps of the chain go to the place where the code stands now. */
        void aimHere(int chain) {
            int jump = chain;
            for (int k = 0; k < MOST_TEXT && jump >= 0 && jump < size; k++) {
                int before = operand[jump];
                operand[jump] = size;
                jump = before;
            }
        }

        void copyFrom(Law other) {
            System.arraycopy(other.code, 0, code, 0, MOST_TEXT);
            System.arraycopy(other.operand, 0, operand, 0, MOST_TEXT);
            System.arraycopy(other.letter, 0, letter, 0, MOST_CLAUSES);
            System.arraycopy(other.amountAt, 0, amountAt, 0, MOST_CLAUSES);
            System.arraycopy(other.conditionAt, 0, conditionAt, 0, MOST_CLAUSES);
            size = other.size;
            clauses = other.clauses;
        }
    }

    /** Reads a text into a draft of the law, or tells its first fault from the left. */
    private static final class LawReader {
        private static final int CANNOT_STAND = 1;
        private static final int SIXTH_DIGIT = 2;
        private static final int CLAUSE_TOO_MANY = 4;
        private static final int TOO_DEEP = 5;
        private static final int MOST_DIGITS = 5;
        private static final int MOST_OPEN = 6;

        private final Law draft = new Law();
        private final Tape text;
        private int length;
        private int at;
        private int fault;

        LawReader(Tape text) {
            this.text = text;
        }

        /** 0, or -1000 times the fault's number, less its place. */
        int read(int n) {
            length = n;
            at = 0;
            fault = 0;
            draft.forget();
            boolean isMore = readClause();
            // one clause more than there may be is begun, since it is a fault of its own
            for (int k = 0; k < Law.MOST_CLAUSES && isMore && at < length; k++) {
                isMore = take(';') && readClause();
            }
            return fault;
        }

        /** The sign that stands next; NONE at the end. */
        private int next() {
            return at < length ? text.byteAt(at) : NONE;
        }

        private boolean fail(int number) {
            fault = -1000 * number - at;
            return false;
        }

        private boolean take(int sign) {
            if (next() != sign) {
                return fail(CANNOT_STAND);
            }
            at++;
            return true;
        }

        /** Goes past a sign that opens, which stands next. */
        private boolean open(int depth) {
            if (depth >= MOST_OPEN) {
                return fail(TOO_DEEP);
            }
            at++;
            return true;
        }

        private boolean readClause() {
            int letter = next();
            if (letter != Law.HEAVY && letter != Law.PUSHED) {
                return fail(CANNOT_STAND);
            }
            if (draft.clauses >= Law.MOST_CLAUSES) {
                return fail(CLAUSE_TOO_MANY);
            }
            at++;
            draft.startClause(letter);
            if (!readSum(0) || !take('(')) {
                return false;
            }
            draft.startCondition();
            if (!readCondition(1) || !take(')')) {
                return false;
            }
            draft.emit(Law.END, 0);
            return true;
        }

        private boolean readCondition(int depth) {
            if (!readPart(depth)) {
                return false;
            }
            int chain = NONE;
            while (at < length && next() == '|') {
                at++;
                chain = draft.emitJump(Law.SKIP_IF, chain);
                if (!readPart(depth)) {
                    return false;
                }
            }
            draft.aimHere(chain);
            return true;
        }

        private boolean readPart(int depth) {
            if (!readPiece(depth)) {
                return false;
            }
            int chain = NONE;
            while (at < length && next() == '&') {
                at++;
                chain = draft.emitJump(Law.SKIP_UNLESS, chain);
                if (!readPiece(depth)) {
                    return false;
                }
            }
            draft.aimHere(chain);
            return true;
        }

        private boolean readPiece(int depth) {
            int sign = next();
            if (sign == '!') {
                if (!open(depth) || !readPiece(depth + 1)) {
                    return false;
                }
                draft.emit(Law.NOT, 0);
                return true;
            }
            if (sign == '(') {
                return open(depth) && readCondition(depth + 1) && take(')');
            }
            if (!readSum(depth)) {
                return false;
            }
            int than = next();
            if (than != '<' && than != '>' && than != '=') {
                return fail(CANNOT_STAND);
            }
            at++;
            if (!readSum(depth)) {
                return false;
            }
            draft.emit(than, 0);
            return true;
        }

        private boolean readSum(int depth) {
            if (!readTerm(depth)) {
                return false;
            }
            while (at < length && (next() == '+' || next() == '-')) {
                int sign = next();
                at++;
                if (!readTerm(depth)) {
                    return false;
                }
                draft.emit(sign, 0);
            }
            return true;
        }

        private boolean readTerm(int depth) {
            if (!readFactor(depth)) {
                return false;
            }
            while (at < length && (next() == '*' || next() == '/' || next() == '%')) {
                int sign = next();
                at++;
                if (!readFactor(depth)) {
                    return false;
                }
                draft.emit(sign, 0);
            }
            return true;
        }

        private boolean readFactor(int depth) {
            int sign = next();
            if (sign == '[') {
                return open(depth) && readSum(depth + 1) && take(']');
            }
            if (isDigit(sign)) {
                return readNumber();
            }
            int fact = Law.factOf(sign);
            if (fact == NONE) {
                return fail(CANNOT_STAND);
            }
            at++;
            draft.emit(Law.FACT, fact);
            return true;
        }

        private boolean readNumber() {
            int number = 0;
            for (int digits = 0; digits < MOST_DIGITS && isDigit(next()); digits++) {
                number = 10 * number + next() - '0';
                at++;
            }
            if (isDigit(next())) {
                return fail(SIXTH_DIGIT);
            }
            draft.emit(Law.NUMBER, number);
            return true;
        }

        private static boolean isDigit(int sign) {
            return sign >= '0' && sign <= '9';
        }
    }

    /** Loads and moments of all rods by one wind, and how a change of one ribbon moves them. */
    private static final class Scale {
        private final Ledger ledger;
        private final Law law;
        private final int[] heavy = new int[MOST_RIBBONS];
        private final int[] push = new int[MOST_RIBBONS];
        private final int[] load = new int[MOST_RODS];
        private final int[] moment = new int[MOST_RODS];

        Scale(Ledger ledger, Law law) {
            this.ledger = ledger;
            this.law = law;
        }

        void weigh(int wind) {
            for (int r = 0; r < MOST_RODS; r++) {
                load[r] = 0;
                moment[r] = 0;
            }
            for (int i = 0; i < ledger.ribbons; i++) {
                heavy[i] = 0;
                push[i] = 0;
                int r = ledger.rod[i];
                if (ledger.hangs[i] && ledger.hasRod(r)) {
                    law.look(ledger, i, ledger.length[i], wind);
                    heavy[i] = law.ask(Law.HEAVY);
                    push[i] = law.ask(Law.PUSHED);
                    load[r] += heavy[i];
                    moment[r] += ledger.arm[i] * heavy[i] + push[i];
                }
            }
            // a rod hangs on one of a lower number, so its own load is whole before it is handed on
            for (int r = ledger.rods - 1; r > 0; r--) {
                int above = ledger.on[r];
                if (ledger.hasRod(above)) {
                    load[above] += load[r];
                    moment[above] += ledger.rodArm[r] * load[r];
                }
            }
        }

        /** At an arm of a rod it gets heavier and pushed by so much: the rods above feel the weight. */
        void shift(int rod, int arm, int moreHeavy, int morePush) {
            if (!ledger.hasRod(rod)) {
                return;
            }
            moment[rod] += arm * moreHeavy + morePush;
            int r = rod;
            for (int k = 0; k < MOST_RODS && r > 0; k++) {
                int above = ledger.on[r];
                if (!ledger.hasRod(above)) {
                    return;
                }
                moment[above] += ledger.rodArm[r] * moreHeavy;
                r = above;
            }
        }

        /** Whether the rods that feel ribbon i lean as told, if it were heavier and pushed by so much. */
        boolean wouldLean(int i, int moreHeavy, int morePush, int[] leans) {
            int r = ledger.hasRibbon(i) ? ledger.rod[i] : NONE;
            int more = ledger.hasRibbon(i) ? ledger.arm[i] * moreHeavy + morePush : 0;
            for (int k = 0; k < MOST_RODS && ledger.hasRod(r) && r < leans.length; k++) {
                if (ledger.seen[r] && leanOf(moment[r] + more, ledger.stiff[r]) != leans[r]) {
                    return false;
                }
                more = ledger.rodArm[r] * moreHeavy;
                r = ledger.on[r];
            }
            return true;
        }

        /** Whether the other rods, which never feel it, lean as told. */
        boolean leanBeside(int i, int[] leans) {
            int feeling = 0;
            int above = ledger.hasRibbon(i) ? ledger.rod[i] : NONE;
            for (int k = 0; k < MOST_RODS && ledger.hasRod(above); k++) {
                feeling |= 1 << above;
                above = ledger.on[above];
            }
            for (int r = 0; r < ledger.rods && r < leans.length; r++) {
                if ((feeling >> r & 1) == 0 && ledger.seen[r] && lean(r) != leans[r]) {
                    return false;
                }
            }
            return true;
        }

        /** What a ribbon that hangs gives to the moment of rod 0. */
        int partOfMoment(int i) {
            if (!ledger.hasRibbon(i)) {
                return 0;
            }
            int r = ledger.rod[i];
            if (r == 0) {
                return ledger.arm[i] * heavy[i] + push[i];
            }
            for (int k = 0; k < MOST_RODS && ledger.hasRod(r) && ledger.on[r] > 0; k++) {
                r = ledger.on[r];
            }
            return ledger.hasRod(r) ? ledger.rodArm[r] * heavy[i] : 0;
        }

        int lean(int r) {
            return ledger.hasRod(r) ? leanOf(moment[r], ledger.stiff[r]) : 0;
        }

        boolean isSeenToLean() {
            for (int r = 0; r < ledger.rods; r++) {
                if (ledger.seen[r] && lean(r) != 0) {
                    return true;
                }
            }
            return false;
        }

        boolean isPicture(int[] leans) {
            for (int r = 0; r < ledger.rods && r < leans.length; r++) {
                if (ledger.seen[r] && lean(r) != leans[r]) {
                    return false;
                }
            }
            return true;
        }

        /** The picture as one number: ten leans of nineteen kinds each fit into a long. */
        long picture() {
            long all = 0;
            for (int r = 0; r < ledger.rods; r++) {
                if (ledger.seen[r]) {
                    all = all * WINDS + lean(r) + REACH;
                }
            }
            return all;
        }

        int leansOtherThan(int[] leans) {
            int n = 0;
            for (int r = 0; r < ledger.rods && r < leans.length; r++) {
                if (lean(r) != leans[r]) {
                    n++;
                }
            }
            return n;
        }

        void writeLeans(int[] leans) {
            for (int r = 0; r < ledger.rods && r < leans.length; r++) {
                leans[r] = lean(r);
            }
        }

        int leansTogether() {
            int sum = 0;
            for (int r = 0; r < ledger.rods; r++) {
                sum += Math.abs(lean(r));
            }
            return sum;
        }
    }

    /** Payments and frauds: the pair of ribbons of which one is cut and the other knotted. */
    private static final class Payments {
        private final Ledger ledger;
        private final Law law;
        private final Scale[] days = new Scale[MOST_TOLD];
        private final int[] winds = new int[MOST_TOLD];
        private final int[][] leans = new int[MOST_TOLD][MOST_RODS];
        private final int[][] moreHeavy = new int[MOST_TOLD][MOST_RIBBONS];
        private final int[][] morePush = new int[MOST_TOLD][MOST_RIBBONS];
        private int from;
        private int to;
        private int first;
        private int second;
        private int others;

        Payments(Ledger ledger, Law law) {
            this.ledger = ledger;
            this.law = law;
            for (int d = 0; d < MOST_TOLD; d++) {
                days[d] = new Scale(ledger, law);
            }
        }

        boolean findPayment(int a, int b, int n) {
            from = a;
            to = b;
            startDay(0, ledger.wind);
            weighChanges(0, n);
            others = MOST_RODS + 1;
            for (int i = 0; i < ledger.ribbons; i++) {
                if (canCut(i, n)) {
                    shift(0, i, 1);
                    tryKnots(i, n);
                    shift(0, i, -1);
                }
            }
            return others <= MOST_RODS;
        }

        private void tryKnots(int i, int n) {
            for (int j = 0; j < ledger.ribbons; j++) {
                if (canKnot(j, n)) {
                    shift(0, j, 1);
                    int changed = days[0].leansOtherThan(leans[0]);
                    shift(0, j, -1);
                    if (changed < others) {
                        others = changed;
                        first = i;
                        second = j;
                    }
                }
            }
        }

        void carryOut(int n) {
            if (ledger.hasRibbon(first) && ledger.hasRibbon(second)) {
                ledger.length[first] -= n;
                ledger.length[second] += n;
            }
        }

        /** The greatest n, 0 if there is none. */
        int findFraud(int a, int b, Tape tape, int told) {
            from = a;
            to = b;
            for (int d = 0; d < told && d < MOST_TOLD; d++) {
                startDay(d, tape.byteAt(d) - REACH);
            }
            for (int n = mostPayable(); n > 0; n--) {
                if (findUnseen(n, told)) {
                    return n;
                }
            }
            return 0;
        }

        /** The longest one can give so much, the shortest one can take so much. */
        private int mostPayable() {
            int longest = 0;
            int shortest = MOST_LENGTH;
            for (int i = 0; i < ledger.ribbons; i++) {
                if (ledger.isWhiteOf(i, from)) {
                    longest = Math.max(longest, ledger.length[i]);
                } else if (ledger.isWhiteOf(i, to)) {
                    shortest = Math.min(shortest, ledger.length[i]);
                }
            }
            return Math.min(longest - 1, MOST_LENGTH - shortest);
        }

        private boolean findUnseen(int n, int told) {
            for (int d = 0; d < told; d++) {
                weighChanges(d, n);
            }
            for (int i = 0; i < ledger.ribbons; i++) {
                if (canCut(i, n)) {
                    for (int j = 0; j < ledger.ribbons; j++) {
                        if (canKnot(j, n) && isUnseen(i, j, told)) {
                            first = i;
                            second = j;
                            return true;
                        }
                    }
                }
            }
            return false;
        }

        private boolean isUnseen(int i, int j, int told) {
            boolean isSame = true;
            for (int d = 0; d < told && d < MOST_TOLD && isSame; d++) {
                shift(d, i, 1);
                shift(d, j, 1);
                isSame = days[d].isPicture(leans[d]);
                shift(d, j, -1);
                shift(d, i, -1);
            }
            return isSame;
        }

        private boolean canCut(int i, int n) {
            return ledger.isWhiteOf(i, from) && ledger.length[i] - n >= 1;
        }

        private boolean canKnot(int i, int n) {
            return ledger.isWhiteOf(i, to) && ledger.length[i] + n <= MOST_LENGTH;
        }

        private void startDay(int d, int wind) {
            if (d >= 0 && d < MOST_TOLD) {
                winds[d] = wind;
                days[d].weigh(wind);
                days[d].writeLeans(leans[d]);
            }
        }

        /** A ribbon has one owner, so its change by cutting or knotting n is one. */
        private void weighChanges(int d, int n) {
            if (d < 0 || d >= MOST_TOLD) {
                return;
            }
            for (int i = 0; i < ledger.ribbons; i++) {
                boolean isCut = canCut(i, n);
                if (isCut || canKnot(i, n)) {
                    law.look(ledger, i, ledger.length[i] + (isCut ? -n : n), winds[d]);
                    moreHeavy[d][i] = law.ask(Law.HEAVY) - days[d].heavy[i];
                    morePush[d][i] = law.ask(Law.PUSHED) - days[d].push[i];
                }
            }
        }

        private void shift(int d, int i, int times) {
            if (d >= 0 && d < MOST_TOLD && ledger.hasRibbon(i)) {
                int heavier = times * moreHeavy[d][i];
                days[d].shift(ledger.rod[i], ledger.arm[i], heavier, times * morePush[d][i]);
            }
        }
    }

    /** Told ribbons hung at told places so that all is most level. */
    private static final class Leveller {
        private final Ledger ledger;
        private final Law law;
        private final Scale scale;
        private final int[] ribbons = new int[MOST_TOLD];
        private final int[] rods = new int[MOST_TOLD];
        private final int[] arms = new int[MOST_TOLD];
        private final int[][] heavy = new int[MOST_TOLD][MOST_TOLD];
        private final int[][] push = new int[MOST_TOLD][MOST_TOLD];
        private final int[] row = new int[MOST_TOLD];
        private final int[] best = new int[MOST_TOLD];
        private int told;
        private int least;

        Leveller(Ledger ledger, Law law, Scale scale) {
            this.ledger = ledger;
            this.law = law;
            this.scale = scale;
        }

        /** False: what is told can't be. */
        boolean read(Tape tape, int n) {
            told = Math.max(0, Math.min(MOST_TOLD, n));
            for (int k = 0; k < told; k++) {
                ribbons[k] = tape.byteAt(3 * k);
                rods[k] = tape.byteAt(3 * k + 1);
                arms[k] = tape.byteAt(3 * k + 2) - REACH;
                if (!ledger.isHanging(ribbons[k]) || !ledger.hasRod(rods[k]) || !reaches(arms[k]) || isTwice(k)) {
                    return false;
                }
            }
            return true;
        }

        private boolean isTwice(int k) {
            for (int m = 0; m < k && k < MOST_TOLD; m++) {
                if (ribbons[m] == ribbons[k] || rods[m] == rods[k] && arms[m] == arms[k]) {
                    return true;
                }
            }
            return false;
        }

        void search() {
            scale.weigh(ledger.wind);
            for (int k = 0; k < told; k++) {
                int i = ribbons[k];
                if (ledger.hasRibbon(i)) {
                    scale.shift(ledger.rod[i], ledger.arm[i], -scale.heavy[i], -scale.push[i]);
                }
                weighAtPlaces(k);
            }
            least = Integer.MAX_VALUE;
            hangFrom(0, 0);
        }

        private void weighAtPlaces(int k) {
            for (int m = 0; m < told && k < told; m++) {
                int i = ribbons[k];
                if (ledger.hasRibbon(i)) {
                    law.lookAt(ledger, i, ledger.length[i], rods[m], arms[m], ledger.wind);
                    heavy[k][m] = law.ask(Law.HEAVY);
                    push[k][m] = law.ask(Law.PUSHED);
                }
            }
        }

        /** Rows come in their order, so that the first of like ones is the least. */
        private void hangFrom(int k, int used) {
            if (k >= told) {
                compare();
                return;
            }
            for (int m = 0; m < told; m++) {
                if ((used >> m & 1) == 0) {
                    row[k] = m;
                    scale.shift(rods[m], arms[m], heavy[k][m], push[k][m]);
                    hangFrom(k + 1, used | 1 << m);
                    scale.shift(rods[m], arms[m], -heavy[k][m], -push[k][m]);
                }
            }
        }

        private void compare() {
            int sum = scale.leansTogether();
            if (sum < least) {
                least = sum;
                System.arraycopy(row, 0, best, 0, MOST_TOLD);
            }
        }

        void hang() {
            for (int k = 0; k < told; k++) {
                int i = ribbons[k];
                int m = best[k];
                if (ledger.hasRibbon(i) && m >= 0 && m < told) {
                    ledger.rod[i] = rods[m];
                    ledger.arm[i] = arms[m];
                }
            }
        }
    }

    /** What may be false by a picture that is told, and the wind that tells most of it. */
    private static final class Watcher {
        // another length than its own: 98 of each ribbon
        private static final int MOST_CASES = MOST_RIBBONS * (MOST_LENGTH - 1);
        private static final int CODE = 100;

        private final Ledger ledger;
        private final Law law;
        private final Scale scale;
        private final int[] told = new int[MOST_RODS];
        // made by the first gust: few objects are asked for one, and these rows are the long ones
        private int[] cases;
        private long[] pictures;
        private int found;
        // bits of the ribbons of which some length may fit the picture that is told
        private long inQuestion;
        private int gustWind;
        private int gustCrowd;

        Watcher(Ledger ledger, Law law, Scale scale) {
            this.ledger = ledger;
            this.law = law;
            this.scale = scale;
        }

        /** False: no such leans. */
        boolean readPicture(Tape tape) {
            int place = 0;
            for (int r = 0; r < ledger.rods; r++) {
                if (ledger.seen[r]) {
                    told[r] = tape.byteAt(place) - REACH;
                    place++;
                    if (!reaches(told[r])) {
                        return false;
                    }
                }
            }
            return true;
        }

        /** Weighs by the wind as it is; of a ribbon with a wrong rod beside it no length can be right. */
        private void startWatch() {
            scale.weigh(ledger.wind);
            inQuestion = 0;
            for (int i = 0; i < ledger.ribbons; i++) {
                if (ledger.hangs[i] && scale.leanBeside(i, told)) {
                    inQuestion |= 1L << i;
                }
            }
        }

        private boolean isInQuestion(int i) {
            return ledger.hasRibbon(i) && (inQuestion >> i & 1) != 0;
        }

        private boolean mayBe(int i, int length) {
            if (!isInQuestion(i) || ledger.length[i] == length) {
                return false;
            }
            law.look(ledger, i, length, ledger.wind);
            int moreHeavy = law.ask(Law.HEAVY) - scale.heavy[i];
            int morePush = law.ask(Law.PUSHED) - scale.push[i];
            return scale.wouldLean(i, moreHeavy, morePush, told);
        }

        int falseLengths(int i) {
            startWatch();
            int n = 0;
            for (int length = 1; length <= MOST_LENGTH && isInQuestion(i); length++) {
                if (mayBe(i, length)) {
                    n++;
                }
            }
            return n;
        }

        long suspectBits() {
            startWatch();
            long bits = 0;
            for (int i = 0; i < ledger.ribbons; i++) {
                boolean isFalse = false;
                for (int length = 1; length <= MOST_LENGTH && isInQuestion(i) && !isFalse; length++) {
                    isFalse = mayBe(i, length);
                }
                if (isFalse) {
                    bits |= 1L << i;
                }
            }
            return bits;
        }

        /** Each ribbon and length that may be false; how many. */
        int collectCases() {
            if (cases == null) {
                cases = new int[MOST_CASES];
            }
            startWatch();
            found = 0;
            for (int i = 0; i < ledger.ribbons; i++) {
                for (int length = 1; length <= MOST_LENGTH && isInQuestion(i); length++) {
                    if (mayBe(i, length) && found < cases.length) {
                        cases[found] = i * CODE + length;
                        found++;
                    }
                }
            }
            return found;
        }

        /** Of the winds, which stand on the tape behind the picture, the one that parts the cases best. */
        void findGust(Tape tape, int n) {
            int from = ledger.seenRods();
            gustCrowd = Integer.MAX_VALUE;
            // no wind can part them better than one by one
            for (int k = 0; k < n && gustCrowd > 1; k++) {
                int wind = tape.byteAt(from + k) - REACH;
                int crowd = crowdBy(wind);
                if (crowd < gustCrowd) {
                    gustCrowd = crowd;
                    gustWind = wind;
                }
            }
        }

        /** How many cases have one and the same picture at most. */
        private int crowdBy(int wind) {
            if (pictures == null) {
                pictures = new long[MOST_CASES];
            }
            scale.weigh(wind);
            for (int k = 0; k < found && k < pictures.length && cases != null && k < cases.length; k++) {
                pictures[k] = pictureOf(cases[k] / CODE, cases[k] % CODE, wind);
            }
            sort(pictures, found);
            return longestStretch(pictures, found);
        }

        private long pictureOf(int i, int length, int wind) {
            if (!ledger.hasRibbon(i)) {
                return 0;
            }
            law.look(ledger, i, length, wind);
            int moreHeavy = law.ask(Law.HEAVY) - scale.heavy[i];
            int morePush = law.ask(Law.PUSHED) - scale.push[i];
            scale.shift(ledger.rod[i], ledger.arm[i], moreHeavy, morePush);
            long picture = scale.picture();
            scale.shift(ledger.rod[i], ledger.arm[i], -moreHeavy, -morePush);
            return picture;
        }

        /** Shell's way: it needs no row beside this one. */
        private static void sort(long[] row, int n) {
            int end = Math.min(n, row.length);
            int gap = 1;
            while (gap < end / 3) {
                gap = 3 * gap + 1;
            }
            for (; gap >= 1; gap /= 3) {
                for (int k = gap; k < end; k++) {
                    long one = row[k];
                    int at = k;
                    while (at >= gap && row[at - gap] > one) {
                        row[at] = row[at - gap];
                        at -= gap;
                    }
                    row[at] = one;
                }
            }
        }

        private static int longestStretch(long[] row, int n) {
            int longest = 0;
            int stretch = 0;
            for (int k = 0; k < n && k < row.length; k++) {
                stretch = k > 0 && row[k] == row[k - 1] ? stretch + 1 : 1;
                longest = Math.max(longest, stretch);
            }
            return longest;
        }
    }

    /** Rings of debts. */
    private static final class Debts {
        // each ring ends at least one debt, and there are no more debts than pairs of people
        private static final int MOST_RINGS = MOST_PEOPLE * MOST_PEOPLE;

        private final Ledger ledger;
        private final int[][] sums = new int[MOST_PEOPLE][MOST_PEOPLE];
        private final int[] row = new int[MOST_PEOPLE];
        private final int[] best = new int[MOST_PEOPLE];
        private int people;
        private int cut;

        Debts(Ledger ledger) {
            this.ledger = ledger;
        }

        boolean findBest() {
            addUp();
            people = 0;
            cut = 0;
            for (int start = 0; start < MOST_PEOPLE; start++) {
                row[0] = start;
                goOn(1, 1 << start, Integer.MAX_VALUE / MOST_PEOPLE);
            }
            return cut > 0;
        }

        private void addUp() {
            for (int a = 0; a < MOST_PEOPLE; a++) {
                for (int b = 0; b < MOST_PEOPLE; b++) {
                    sums[a][b] = 0;
                }
            }
            for (int i = 0; i < ledger.ribbons; i++) {
                int a = ledger.owner[i];
                int b = ledger.to[i];
                if (ledger.hangs[i] && areTwo(a, b)) {
                    sums[a][b] += ledger.length[i];
                }
            }
        }

        /**
         * Rings start at their lowest person and those of one size come in their order, so that
         * the first of like ones is the least row.
         */
        private void goOn(int size, int used, int least) {
            // not even all people in one ring would make more of so little
            if (size < 1 || size > MOST_PEOPLE || least * MOST_PEOPLE <= cut) {
                return;
            }
            int last = row[size - 1];
            compare(size, Math.min(least, sums[last][row[0]]));
            for (int p = row[0] + 1; p < MOST_PEOPLE && size < MOST_PEOPLE; p++) {
                if ((used >> p & 1) == 0 && sums[last][p] > 0) {
                    row[size] = p;
                    goOn(size + 1, used | 1 << p, Math.min(least, sums[last][p]));
                }
            }
        }

        private void compare(int size, int least) {
            int much = least * size;
            if (much > cut || much == cut && much > 0 && size < people) {
                cut = much;
                people = size;
                System.arraycopy(row, 0, best, 0, MOST_PEOPLE);
            }
        }

        int cutAll() {
            int together = 0;
            for (int k = 0; k < MOST_RINGS && findBest(); k++) {
                together += cut;
                cutRing();
            }
            return together;
        }

        private void cutRing() {
            if (people < 2 || people > MOST_PEOPLE) {
                return;
            }
            int each = cut / people;
            for (int k = 0; k < people; k++) {
                ledger.cutDebt(best[k], best[(k + 1) % people], each);
            }
        }
    }

    /** A run on the bank. */
    private static final class Rush {
        private static final int GROUPS = 1 << MOST_PEOPLE;

        private final Ledger ledger;
        private final Scale scale;
        private final int[] told = new int[MOST_PEOPLE];
        private final int[] lengths = new int[MOST_PEOPLE];
        private final int[] moments = new int[MOST_PEOPLE];
        // by the group that has been served: what can still be got; NONE: it has tipped
        private final int[] hope = new int[GROUPS];
        private int served;
        private int got;

        Rush(Ledger ledger, Scale scale) {
            this.ledger = ledger;
            this.scale = scale;
        }

        /** False: no such people, or one twice. */
        boolean readPeople(Tape tape, int n) {
            int bits = 0;
            for (int k = 0; k < n && k < MOST_PEOPLE; k++) {
                int p = tape.byteAt(k);
                if (!isPerson(p) || (bits >> p & 1) != 0) {
                    return false;
                }
                told[k] = p;
                bits |= 1 << p;
            }
            return true;
        }

        private void weighPeople() {
            scale.weigh(ledger.wind);
            for (int p = 0; p < MOST_PEOPLE; p++) {
                lengths[p] = 0;
                moments[p] = 0;
                for (int i = 0; i < ledger.ribbons; i++) {
                    if (ledger.isWhiteOf(i, p)) {
                        lengths[p] += ledger.length[i];
                        moments[p] += scale.partOfMoment(i);
                    }
                }
            }
        }

        private boolean isTipped(int group, int limit) {
            int moment = scale.moment[0];
            for (int p = 0; p < MOST_PEOPLE; p++) {
                if ((group >> p & 1) != 0) {
                    moment -= moments[p];
                }
            }
            return Math.abs(leanOf(moment, ledger.stiff[0])) > limit;
        }

        void happen(int n, int limit) {
            weighPeople();
            served = 0;
            got = 0;
            for (int k = 0; k < n && k < MOST_PEOPLE && !isTipped(served, limit); k++) {
                int p = told[k];
                if (isPerson(p)) {
                    served |= 1 << p;
                    got += lengths[p];
                }
            }
        }

        /** The greater groups first: what a group hopes for stands on those with one more. */
        void findBest(int people, int limit) {
            weighPeople();
            for (int group = GROUPS - 1; group >= 0; group--) {
                if ((group & ~people) == 0) {
                    hope[group] = isTipped(group, limit) ? NONE : bestFrom(group, people);
                }
            }
        }

        private int bestFrom(int group, int people) {
            int most = 0;
            for (int p = 0; p < MOST_PEOPLE; p++) {
                if (((people & ~group) >> p & 1) != 0) {
                    most = Math.max(most, hopeBy(group, p));
                }
            }
            return most;
        }

        private int hopeBy(int group, int p) {
            return isPerson(p) ? lengths[p] + Math.max(0, hopeOf(group | 1 << p)) : 0;
        }

        private int hopeOf(int group) {
            return group >= 0 && group < GROUPS ? hope[group] : NONE;
        }

        int most() {
            return Math.max(0, hopeOf(0));
        }

        int personAt(int people, int place) {
            int group = 0;
            int person = NONE;
            boolean isOver = false;
            for (int k = 0; k <= place && k < MOST_PEOPLE; k++) {
                isOver = isOver || hopeOf(group) == NONE;
                person = nextPerson(people, group, isOver);
                if (!isPerson(person)) {
                    return NONE;
                }
                group |= 1 << person;
            }
            return person;
        }

        /** The lowest one who spoils nothing; when all is over, the lowest one left. */
        private int nextPerson(int people, int group, boolean isOver) {
            for (int p = 0; p < MOST_PEOPLE; p++) {
                boolean isLeft = ((people & ~group) >> p & 1) != 0;
                if (isLeft && (isOver || hopeBy(group, p) == hopeOf(group))) {
                    return p;
                }
            }
            return NONE;
        }
    }
}
