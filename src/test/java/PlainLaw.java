import java.util.ArrayDeque;
import java.util.ArrayList;
import java.util.Deque;
import java.util.List;

/**
 * The law read in another way than the class reads it: faults by an automaton that goes from sign
 * to sign, answers by going through the text anew each time. The tests hold the class against it.
 */
final class PlainLaw {
    /** What is divided by 0. */
    private static final class Refused extends Exception {
        private static final long serialVersionUID = 1;
    }

    private enum Wanted { LETTER, FACTOR, MORE_OF_E, PIECE, MORE_OF_C, MORE_CLAUSES }

    final String text;
    final List<String> clauses = new ArrayList<>();

    private String read;
    private int at;
    private int[] facts;

    PlainLaw(String text) {
        this.text = text;
        if (!text.isEmpty()) {
            for (String clause : text.split(";")) {
                clauses.add(clause);
            }
        }
    }

    /** 0 if there is none. */
    static int fault(String text) {
        Deque<Character> open = new ArrayDeque<>();
        Wanted wanted = Wanted.LETTER;
        int clauses = 0;
        int digits = 0;
        boolean isSecond = false;
        for (int at = 0; at <= text.length(); at++) {
            char c = at < text.length() ? text.charAt(at) : (char) 0xFFFF;
            int wrong = -1000 - at;
            if (wanted == Wanted.MORE_OF_E && digits > 0 && Character.digit(c, 10) >= 0 && c < 128) {
                digits++;
                if (digits == 6) {
                    return -2000 - at;
                }
                continue;
            }
            digits = 0;
            if (wanted == Wanted.MORE_OF_E && isSecond && open.peek() != '[' && ")&|".indexOf(c) >= 0) {
                while (open.peek() == '!') {
                    open.pop();
                }
                wanted = Wanted.MORE_OF_C;
            }
            switch (wanted) {
                case LETTER:
                    if ("gp".indexOf(c) < 0) {
                        return wrong;
                    }
                    clauses++;
                    if (clauses == 15) {
                        return -4000 - at;
                    }
                    wanted = Wanted.FACTOR;
                    isSecond = false;
                    break;
                case FACTOR:
                    if (c == '[') {
                        if (open.size() == 6) {
                            return -5000 - at;
                        }
                        open.push(c);
                    } else if (c >= '0' && c <= '9') {
                        digits = 1;
                        wanted = Wanted.MORE_OF_E;
                    } else if ("lcoarwv".indexOf(c) >= 0) {
                        wanted = Wanted.MORE_OF_E;
                    } else {
                        return wrong;
                    }
                    break;
                case MORE_OF_E:
                    if ("+-*/%".indexOf(c) >= 0) {
                        wanted = Wanted.FACTOR;
                    } else if (c == ']' && !open.isEmpty() && open.peek() == '[') {
                        open.pop();
                    } else if (c == '(' && open.isEmpty()) {
                        open.push(c);
                        wanted = Wanted.PIECE;
                    } else if ("<>=".indexOf(c) >= 0 && !isSecond && !open.isEmpty() && open.peek() != '[') {
                        isSecond = true;
                        wanted = Wanted.FACTOR;
                    } else {
                        return wrong;
                    }
                    break;
                case PIECE:
                    if (c == '!' || c == '(') {
                        if (open.size() == 6) {
                            return -5000 - at;
                        }
                        open.push(c);
                    } else {
                        isSecond = false;
                        wanted = Wanted.FACTOR;
                        at--;
                    }
                    break;
                case MORE_OF_C:
                    if (c == '&' || c == '|') {
                        wanted = Wanted.PIECE;
                    } else if (c == ')') {
                        open.pop();
                        while (!open.isEmpty() && open.peek() == '!') {
                            open.pop();
                        }
                        if (open.isEmpty()) {
                            wanted = Wanted.MORE_CLAUSES;
                        }
                    } else {
                        return wrong;
                    }
                    break;
                default:
                    if (at == text.length()) {
                        return 0;
                    }
                    if (c != ';') {
                        return wrong;
                    }
                    wanted = Wanted.LETTER;
                    break;
            }
        }
        throw new IllegalStateException(text);
    }

    /** Facts in the order l c o a r w v. */
    int answer(char letter, int... ofRibbon) {
        facts = ofRibbon;
        for (String clause : clauses) {
            if (clause.charAt(0) == letter && holds(clause)) {
                int e;
                try {
                    read = clause;
                    at = 1;
                    e = sum(true);
                } catch (Refused r) {
                    e = 0;
                }
                int low = letter == 'g' ? 0 : -9999;
                int high = letter == 'g' ? 999 : 9999;
                return e < low ? low : e > high ? high : e;
            }
        }
        return letter == 'g' ? facts[0] : 0;
    }

    private boolean holds(String clause) {
        read = clause;
        at = clause.indexOf('(') + 1;
        try {
            return condition(true);
        } catch (Refused r) {
            return false;
        }
    }

    private boolean condition(boolean asked) throws Refused {
        boolean any = part(asked);
        while (read.charAt(at) == '|') {
            at++;
            any |= part(asked && !any);
        }
        return any;
    }

    private boolean part(boolean asked) throws Refused {
        boolean all = piece(asked);
        while (read.charAt(at) == '&') {
            at++;
            all &= piece(asked && all);
        }
        return all;
    }

    private boolean piece(boolean asked) throws Refused {
        if (read.charAt(at) == '!') {
            at++;
            return !piece(asked) & asked;
        }
        if (read.charAt(at) == '(') {
            at++;
            boolean inner = condition(asked);
            at++;
            return inner;
        }
        int left = sum(asked);
        char sign = read.charAt(at++);
        int right = sum(asked);
        return asked && (sign == '<' ? left < right : sign == '>' ? left > right : left == right);
    }

    private int sum(boolean asked) throws Refused {
        int value = term(asked);
        while (read.charAt(at) == '+' || read.charAt(at) == '-') {
            char sign = read.charAt(at++);
            int other = term(asked);
            value = sign == '+' ? value + other : value - other;
        }
        return value;
    }

    private int term(boolean asked) throws Refused {
        int value = factor(asked);
        while ("*/%".indexOf(read.charAt(at)) >= 0) {
            char sign = read.charAt(at++);
            int other = factor(asked);
            if (sign == '*') {
                value *= other;
            } else if (other != 0) {
                value = sign == '/' ? value / other : value % other;
            } else if (asked) {
                throw new Refused();
            }
        }
        return value;
    }

    private int factor(boolean asked) throws Refused {
        char c = read.charAt(at++);
        if (c == '[') {
            int value = sum(asked);
            at++;
            return value;
        }
        if (Character.isDigit(c)) {
            int from = at - 1;
            while (Character.isDigit(read.charAt(at))) {
                at++;
            }
            return Integer.parseInt(read.substring(from, at));
        }
        return facts["lcoarwv".indexOf(c)];
    }
}
