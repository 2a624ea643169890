import java.util.Random;

/** Laws as texts, right and wrong ones, drawn by a seed that stands fast. */
final class LawTexts {
    private static final String SIGNS = "gplcoarwv0123456789+-*/%()[]!&|<>=; x";

    private final Random random;

    LawTexts(Random random) {
        this.random = random;
    }

    /** A right one of at most 200 bytes. */
    String right() {
        for (;;) {
            StringBuilder text = new StringBuilder();
            int clauses = random.nextInt(8) == 0 ? 14 : 1 + random.nextInt(5);
            for (int k = 0; k < clauses; k++) {
                text.append(k > 0 ? ";" : "").append(random.nextBoolean() ? 'g' : 'p');
                sum(text, 0);
                text.append('(');
                condition(text, 1);
                text.append(')');
            }
            if (text.length() <= 200) {
                return text.toString();
            }
        }
    }

    /** A short one that mostly holds. */
    String simple() {
        StringBuilder text = new StringBuilder();
        int clauses = 1 + random.nextInt(2);
        for (int k = 0; k < clauses; k++) {
            text.append(k > 0 ? ";" : "").append(random.nextInt(3) == 0 ? 'g' : 'p');
            sum(text, 6);
            text.append(random.nextInt(3) > 0 ? "(1=1)" : random.nextBoolean() ? "(v>0)" : "(l>o*9)");
        }
        return text.toString();
    }

    /** A right one with one sign more, less or another, or cut off; it may still be right. */
    String spoilt() {
        StringBuilder text = new StringBuilder(right());
        int at = random.nextInt(text.length());
        char sign = random.nextInt(30) == 0 ? (char) random.nextInt(256) : SIGNS.charAt(random.nextInt(SIGNS.length()));
        switch (random.nextInt(4)) {
            case 0: text.setCharAt(at, sign); break;
            case 1: text.deleteCharAt(at); break;
            case 2: text.setLength(at + 1); break;
            default: text.insert(at, sign); break;
        }
        if (text.length() > 200 || text.length() == 0) {
            return "g";
        }
        return text.toString();
    }

    /** Many brackets, digits or clauses, so that the limits are met. */
    String extreme() {
        StringBuilder text = new StringBuilder();
        int kind = random.nextInt(4);
        if (kind == 0) {
            for (int k = 0; k < 13 + random.nextInt(4); k++) {
                text.append(k > 0 ? ";" : "").append(k % 2 == 0 ? "gl(1=1)" : "pv(l>1)");
            }
        } else if (kind == 1) {
            String open = "";
            for (int k = 0; k < 4 + random.nextInt(4); k++) {
                open += "[";
            }
            text.append('g').append(open).append('l').append(open.replace('[', ']')).append("(1=1)");
        } else if (kind == 2) {
            text.append("pl(");
            StringBuilder end = new StringBuilder();
            int deep = 3 + random.nextInt(5);
            for (int k = 0; k < deep; k++) {
                char c = random.nextInt(3) == 0 ? '!' : '(';
                text.append(c);
                if (c == '(') {
                    end.append(')');
                }
            }
            boolean more = random.nextBoolean();
            text.append(more ? "[l]" : "l").append(">3").append(end).append(random.nextBoolean() ? "&!!!l=[1]" : "").append(')');
        } else {
            text.append("g");
            for (int k = 0; k < 4 + random.nextInt(3); k++) {
                text.append((char) ('0' + random.nextInt(10)));
            }
            text.append("(1=1)");
        }
        return text.toString();
    }

    private void condition(StringBuilder text, int depth) {
        int parts = more();
        for (int k = 0; k < parts; k++) {
            text.append(k > 0 ? "|" : "");
            int pieces = more();
            for (int m = 0; m < pieces; m++) {
                text.append(m > 0 ? "&" : "");
                piece(text, depth);
            }
        }
    }

    private void piece(StringBuilder text, int depth) {
        int kind = depth < 6 ? random.nextInt(8) : 7;
        if (kind == 0) {
            text.append('!');
            piece(text, depth + 1);
        } else if (kind == 1) {
            text.append('(');
            condition(text, depth + 1);
            text.append(')');
        } else {
            sum(text, depth);
            text.append("<>=".charAt(random.nextInt(3)));
            sum(text, depth);
        }
    }

    private void sum(StringBuilder text, int depth) {
        int terms = more();
        for (int k = 0; k < terms; k++) {
            if (k > 0) {
                text.append("+-".charAt(random.nextInt(2)));
            }
            int factors = more();
            for (int m = 0; m < factors; m++) {
                if (m > 0) {
                    text.append("*/%".charAt(random.nextInt(3)));
                }
                factor(text, depth);
            }
        }
    }

    private void factor(StringBuilder text, int depth) {
        int kind = random.nextInt(8);
        if (kind == 0 && depth < 6) {
            text.append('[');
            sum(text, depth + 1);
            text.append(']');
        } else if (kind < 3) {
            text.append(random.nextInt(5) == 0 ? random.nextInt(100000) : random.nextInt(12));
        } else {
            text.append("lcoarwvllv".charAt(random.nextInt(10)));
        }
    }

    private int more() {
        int r = random.nextInt(8);
        return r < 5 ? 1 : r < 7 ? 2 : 3;
    }
}
