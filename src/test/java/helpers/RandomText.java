import java.util.Random;

/** Texts by lot: whole ones, and ones that were spoilt. */
final class RandomText {
    private static final String LETTERS = "dmsaufxhbgltn";
    private static final String SIGNS = "hk(!)[]&|<>=+-*/%;0123456789dmsaufxbgltnq o\u0000\u00ff";
    private static final int[] NUMBERS = {0, 1, 1, 2, 3, 5, 7, 10, 30, 50, 100, 300, 720, 1000, 99999};

    private final Random random;

    RandomText(Random random) {
        this.random = random;
    }

    /** A text of kind h, k or e, of 1 to most signs. */
    String next(char kind, int most) {
        String text = whole(kind, most);
        int spoilt = random.nextInt(4) == 0 ? 1 + random.nextInt(2) : 0;
        for (int i = 0; i < spoilt; i++) {
            text = spoil(text);
        }
        return text.isEmpty() ? "d" : text.length() > most ? text.substring(0, most) : text;
    }

    /** A text that says something at most minutes (or nights). */
    String lively(char kind) {
        String[] values = {"x", "50-a*10", "[x*11]%100+a", "u/2", "s%97*3", "x*[30-a]", "x*x", "100/[m%5]", "7*f-d", "300-x*4"};
        String[] chances = {"1=1", "x>30", "m%3<2", "!(f=2)|a<2", "d%2=0&x>20", "10/[m%5]>2", "a<9&!x<50", "s%2=d%2"};
        String[] ways = {"h>b", "h>g", "h>20&t<3", "t%2=0&h>5|b>40", "l=1", "l=2&g>50", "h>0", "m%7=t", "!(h=b)", "h/[b-10]>1|l<3", "h>99", "g>h&l<4"};
        String[] stories = {"100", "d*3-200", "n*50", "d-n", "[d%7]*30", "600-d*4", "1000/[d%5]", "0-n*n"};
        if (kind == 'e') {
            return stories[random.nextInt(stories.length)];
        }
        StringBuilder text = new StringBuilder();
        for (int i = random.nextInt(3); i >= 0; i--) {
            text.append(kind).append(kind == 'h' ? values[random.nextInt(values.length)] : "").append('(');
            text.append(kind == 'h' ? chances[random.nextInt(chances.length)] : ways[random.nextInt(ways.length)]);
            text.append(i > 0 ? ");" : ")");
        }
        return text.toString();
    }

    private String whole(char kind, int most) {
        for (int turn = 0; turn < 40; turn++) {
            String text = kind == 'e' ? sum(random.nextInt(4)) : clauses(kind);
            if (text.length() <= most) {
                return text;
            }
        }
        return kind == 'h' ? "h50-a(d<5)" : kind == 'k' ? "k(h>5)" : "d+n";
    }

    private String clauses(char kind) {
        if (random.nextInt(12) == 0) {
            return many(kind);
        }
        StringBuilder text = new StringBuilder();
        int clauses = 1 + random.nextInt(3);
        for (int i = 0; i < clauses; i++) {
            text.append(i > 0 ? ";" : "").append(kind).append(kind == 'h' ? sum(random.nextInt(3)) : "");
            text.append('(').append(condition(random.nextInt(3))).append(')');
        }
        return text.toString();
    }

    /** As many short clauses as may be, or one more. */
    private String many(char kind) {
        StringBuilder text = new StringBuilder();
        int clauses = 11 + random.nextInt(3);
        for (int i = 0; i < clauses; i++) {
            text.append(i > 0 ? ";" : "").append(kind).append(kind == 'h' ? "9" : "").append("(m=").append(i).append(')');
        }
        return text.toString();
    }

    private String condition(int deep) {
        StringBuilder text = new StringBuilder(part(deep));
        for (int i = random.nextInt(5) / 3; i > 0; i--) {
            text.append('|').append(part(deep));
        }
        return text.toString();
    }

    private String part(int deep) {
        StringBuilder text = new StringBuilder(piece(deep));
        for (int i = random.nextInt(5) / 3; i > 0; i--) {
            text.append('&').append(piece(deep));
        }
        return text.toString();
    }

    private String piece(int deep) {
        int lot = random.nextInt(10);
        if (lot < 2) {
            return "!" + piece(deep);
        }
        if (lot < 4 && deep > 0) {
            return "(" + condition(deep - 1) + ")";
        }
        if (lot == 4) {
            return "(((((".substring(random.nextInt(5)) + "!d=1";
        }
        return sum(random.nextInt(2)) + "<>=".charAt(random.nextInt(3)) + sum(random.nextInt(2));
    }

    private String sum(int deep) {
        StringBuilder text = new StringBuilder(term(deep));
        for (int i = random.nextInt(4) / 2; i > 0; i--) {
            text.append("+-".charAt(random.nextInt(2))).append(term(deep));
        }
        return text.toString();
    }

    private String term(int deep) {
        StringBuilder text = new StringBuilder(factor(deep));
        for (int i = random.nextInt(4) / 2; i > 0; i--) {
            text.append("*/%".charAt(random.nextInt(3))).append(factor(deep));
        }
        return text.toString();
    }

    private String factor(int deep) {
        if (deep > 0 && random.nextInt(3) == 0) {
            return "[" + sum(deep - 1) + "]";
        }
        if (random.nextInt(40) == 0) {
            return "[[[[[[[".substring(random.nextInt(4)) + "1" + "]]]]]]]".substring(random.nextInt(4));
        }
        if (random.nextInt(3) == 0) {
            return String.valueOf(NUMBERS[random.nextInt(NUMBERS.length)]);
        }
        return String.valueOf(LETTERS.charAt(random.nextInt(LETTERS.length())));
    }

    private String spoil(String text) {
        int at = random.nextInt(text.length() + 1);
        char sign = SIGNS.charAt(random.nextInt(SIGNS.length()));
        int end = Math.min(text.length(), at + 1);
        switch (random.nextInt(4)) {
            case 0:
                return text.substring(0, at) + sign + text.substring(at);
            case 1:
                return text.substring(0, at) + sign + text.substring(end);
            case 2:
                return text.substring(0, at) + text.substring(end);
            default:
                return text.substring(0, at);
        }
    }
}
