import java.util.ArrayDeque;
import java.util.ArrayList;
import java.util.Deque;
import java.util.List;

/**
 * A text of the document, slow and by other means than the program: faults are found by walking over
 * the signs with what may stand next, values by cutting the text at its weakest sign again and again.
 */
final class PlainText {
    private static final class Refused extends Exception {
        private static final long serialVersionUID = 1L;
    }

    private final char kind;
    private final List<String> values = new ArrayList<>();
    private final List<String> conditions = new ArrayList<>();

    /** A text without fault: kind h a law, k a way, e a story. */
    PlainText(String text, char kind) {
        this.kind = kind;
        if (kind == 'e') {
            values.add(text);
            return;
        }
        for (String clause : text.split(";")) {
            int open = clause.indexOf('(');
            values.add(clause.substring(1, open));
            conditions.add(clause.substring(open + 1, clause.length() - 1));
        }
    }

    int clauses() {
        return values.size();
    }

    int worth(int[] letters) {
        return worth(values.get(0), letters);
    }

    int height(int[] letters) {
        for (int i = 0; i < conditions.size(); i++) {
            if (holds(conditions.get(i), letters)) {
                return worth(values.get(i), letters);
            }
        }
        return 0;
    }

    boolean holds(int[] letters) {
        for (String condition : conditions) {
            if (holds(condition, letters)) {
                return true;
            }
        }
        return false;
    }

    private static int worth(String text, int[] letters) {
        try {
            return sum(text, letters);
        } catch (Refused refused) {
            return 0;
        }
    }

    private static boolean holds(String text, int[] letters) {
        try {
            return either(text, letters);
        } catch (Refused refused) {
            return false;
        }
    }

    /** Where, outside all brackets, one of the signs stands: the last such place (or the first); -1 if none does. */
    private static int cut(String text, String signs, boolean last) {
        int depth = 0;
        int found = -1;
        for (int i = 0; i < text.length(); i++) {
            char c = text.charAt(i);
            depth += c == '(' || c == '[' ? 1 : c == ')' || c == ']' ? -1 : 0;
            if (depth == 0 && signs.indexOf(c) >= 0 && (last || found < 0)) {
                found = i;
            }
        }
        return found;
    }

    private static boolean either(String text, int[] letters) throws Refused {
        int at = cut(text, "|", false);
        return at < 0 ? both(text, letters) : both(text.substring(0, at), letters) || either(text.substring(at + 1), letters);
    }

    private static boolean both(String text, int[] letters) throws Refused {
        int at = cut(text, "&", false);
        return at < 0 ? piece(text, letters) : piece(text.substring(0, at), letters) && both(text.substring(at + 1), letters);
    }

    private static boolean piece(String text, int[] letters) throws Refused {
        if (text.charAt(0) == '!') {
            return !piece(text.substring(1), letters);
        }
        if (text.charAt(0) == '(') {
            return either(text.substring(1, text.length() - 1), letters);
        }
        int at = cut(text, "<>=", false);
        int left = sum(text.substring(0, at), letters);
        int right = sum(text.substring(at + 1), letters);
        char sign = text.charAt(at);
        return sign == '<' ? left < right : sign == '>' ? left > right : left == right;
    }

    private static int sum(String text, int[] letters) throws Refused {
        int at = cut(text, "+-", true);
        if (at < 0) {
            return product(text, letters);
        }
        int left = sum(text.substring(0, at), letters);
        int right = product(text.substring(at + 1), letters);
        return text.charAt(at) == '+' ? left + right : left - right;
    }

    private static int product(String text, int[] letters) throws Refused {
        int at = cut(text, "*/%", true);
        if (at < 0) {
            return factor(text, letters);
        }
        int left = product(text.substring(0, at), letters);
        int right = factor(text.substring(at + 1), letters);
        if (text.charAt(at) == '*') {
            return left * right;
        }
        if (right == 0) {
            throw new Refused();
        }
        return text.charAt(at) == '/' ? left / right : left % right;
    }

    private static int factor(String text, int[] letters) throws Refused {
        char first = text.charAt(0);
        if (first == '[') {
            return sum(text.substring(1, text.length() - 1), letters);
        }
        return Character.isDigit(first) ? Integer.parseInt(text) : letters[first];
    }

    /** 0 if the text has no fault. */
    static int fault(String text, char kind) {
        return new Walk(kind).over(text);
    }

    /** What may stand next, sign by sign. */
    private static final class Walk {
        private final char kind;
        private final Deque<Character> open = new ArrayDeque<>();
        // What may stand next: c a clause's letter, v a value, p a piece, o what follows a value,
        // q what follows a closed piece, b what follows a clause.
        private char next;
        // Which E it is: e ahead of a clause's bracket or a story, l left and r right of a comparison.
        private char side = 'e';
        private int digits = 0;
        private int clauses = 0;

        Walk(char kind) {
            this.kind = kind;
            this.next = kind == 'e' ? 'v' : 'c';
        }

        int over(String text) {
            for (int at = 0; at < text.length(); at++) {
                int number = step(text.charAt(at));
                if (number != 0) {
                    return -1000 * number - at;
                }
            }
            boolean whole = kind == 'e' ? next == 'o' && open.isEmpty() : next == 'b';
            return whole ? 0 : -1000 - text.length();
        }

        private int step(char sign) {
            boolean digit = sign >= '0' && sign <= '9';
            if (digits > 0 && digit) {
                digits++;
                return digits > 5 ? 2 : 0;
            }
            digits = 0;
            switch (next) {
                case 'c':
                    return clause(sign);
                case 'p':
                    if (sign == '!' || sign == '(') {
                        return opens(sign);
                    }
                    side = 'l';
                    return value(sign, digit);
                case 'v':
                    return value(sign, digit);
                case 'o':
                    return behindValue(sign);
                case 'q':
                    return behindPiece(sign);
                default:
                    next = 'c';
                    return sign == ';' ? 0 : 1;
            }
        }

        private int clause(char sign) {
            if (sign != kind) {
                return 1;
            }
            clauses++;
            next = kind == 'h' ? 'v' : 'o';
            side = 'e';
            return clauses > 12 ? 4 : 0;
        }

        private int opens(char sign) {
            open.push(sign);
            return open.size() > 6 ? 5 : 0;
        }

        private int value(char sign, boolean digit) {
            if (sign == '[') {
                next = 'v';
                return opens(sign);
            }
            next = 'o';
            digits = digit ? 1 : 0;
            return digit || "abdfghlmnstux".indexOf(sign) >= 0 ? 0 : 1;
        }

        private int behindValue(char sign) {
            boolean wayBegins = kind == 'k' && side == 'e';
            if (!wayBegins && "+-*/%".indexOf(sign) >= 0) {
                next = 'v';
                return 0;
            }
            if (!open.isEmpty() && open.peek() == '[') {
                if (sign == ']') {
                    open.pop();
                    return 0;
                }
                return 1;
            }
            if (side == 'e') {
                next = 'p';
                return sign == '(' && kind != 'e' ? opens(sign) : 1;
            }
            if (side == 'l') {
                side = 'r';
                next = 'v';
                return sign == '<' || sign == '>' || sign == '=' ? 0 : 1;
            }
            return behindPiece(sign);
        }

        private int behindPiece(char sign) {
            while (!open.isEmpty() && open.peek() == '!') {
                open.pop();
            }
            if (sign == '&' || sign == '|') {
                next = 'p';
                return 0;
            }
            if (sign != ')') {
                return 1;
            }
            open.pop();
            next = open.isEmpty() ? 'b' : 'q';
            return 0;
        }
    }
}
