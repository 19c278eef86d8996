import java.util.Arrays;

/**
 * A field of wires under which the sky goes by: sources and the paper that is their sum, readers
 * who mark it, notes, blips, nights with their stories, the quick pen, and how many more there are.
 */
public final class ScruffPaper {
    public static final int NONE = -1;

    private static final int NOTHING = -2;
    private static final int UNSAID = -1000000;

    private static final int DAYS = 400;
    private static final int MINUTES = 1440;
    private static final int NOON = 720;
    private static final int STAR_STEP = 4;
    private static final int WEEK = 7;
    private static final int ALL_WEEKDAYS = 127;
    private static final int WIDEST = 30;
    private static final int SHAPES = 4;
    private static final int SOURCES = 10;
    private static final int READERS = 4;
    private static final int TALLEST = 1000;
    private static final int GREATEST_SEED = 999;
    private static final int PASSED_DAYS = 30;
    private static final int MINUTES_BEFORE = 10;

    private static final int TAPE_BYTES = 200;
    private static final int FED_BYTES = 20;
    private static final int TEXT_BYTES = 120;
    private static final int STORY_BYTES = 60;
    private static final int CLAUSES = 12;
    private static final int DIGITS = 5;
    private static final int OPEN_AT_ONCE = 6;
    private static final String LETTERS = "dmsaufxhbgltn";
    private static final char NUMBER = '0';
    private static final char LETTER = 'a';
    private static final int SIGNS = 128;
    private static final int VALUES = 32;
    private static final int END = -1;
    private static final int CONDITION = 0;
    private static final int PART = 1;
    private static final int SUM = 2;
    private static final int TERM = 3;
    private static final int CANNOT_STAND = 1;
    private static final int SIXTH_DIGIT = 2;
    private static final int TOO_MANY_CLAUSES = 4;
    private static final int TOO_DEEP = 5;

    private static final int NOTES = 40;
    private static final int WIDEST_ARC = 700;
    private static final int BY_STAR = 1;
    private static final int BY_CLOCK = 2;

    private static final int BLIPS = 40;
    private static final int LATEST_BLIP = 1000000000;
    private static final int LONGEST_BEAT = 1000000;
    private static final int BEAT_ERROR = 1000;
    private static final int BEATS_APART = 2000;

    private static final int NIGHTS = 30;
    private static final int STORIES = 6;
    private static final int GREATEST_SHIFT = 100000;
    private static final int SHORTEST_YEAR = 4;
    private static final int LONGEST_YEAR = 400;
    private static final int GREATEST_SIZE = 2000;

    private static final int PEN_NIGHTS = 40;
    private static final int PEN_PLACES = 6;
    private static final int PEN_APART = 10;
    private static final int TEN = 10;
    private static final int SEEN = 20;
    private static final int MOST_THERE = 40;

    private final Tape tape = new Tape();
    private final Scribe scribe = new Scribe();
    private final Sky sky = new Sky();
    private final Page page = new Page();
    private final Text[] ways = new Text[READERS];
    private final Notes notes = new Notes();
    private final Blips blips = new Blips();
    private final Nights nights = new Nights();
    private final Lots lots = new Lots();

    public ScruffPaper() {
    }

    public int source(boolean star, int minute, int wide, int shape, int weekdays) {
        boolean such = isMinute(minute) && isWithin(wide, 0, WIDEST) && isShape(shape)
                && isWithin(weekdays, 0, ALL_WEEKDAYS);
        if (!such || sky.many >= SOURCES) {
            return NONE;
        }
        page.forget();
        return sky.add(new Source(sky.many, star, minute, wide, shape, weekdays));
    }

    public boolean seed(int n) {
        if (!isWithin(n, 0, GREATEST_SEED)) {
            return false;
        }
        page.forget();
        sky.seed = n;
        return true;
    }

    public int feed(int a, int b, int c, int d, int e) {
        if (tape.length > TAPE_BYTES - FED_BYTES) {
            return NONE;
        }
        tape.put(a);
        tape.put(b);
        tape.put(c);
        tape.put(d);
        tape.put(e);
        return tape.length;
    }

    public int law(int i, int n) {
        Source source = sky.sourceAt(i);
        if (source == null || !tapeHas(n, TEXT_BYTES)) {
            return NONE;
        }
        Text text = scribe.writeClauses(tape.bytes, n, 'h');
        tape.clear();
        if (text == null) {
            return scribe.faultCode();
        }
        page.forget();
        source.law = text;
        return text.clauses;
    }

    public int way(int k, int n) {
        if (!isReader(k) || !tapeHas(n, TEXT_BYTES)) {
            return NONE;
        }
        Text text = scribe.writeClauses(tape.bytes, n, 'k');
        tape.clear();
        if (text == null) {
            return scribe.faultCode();
        }
        page.forgetReader(k);
        ways[k] = text;
        return text.clauses;
    }

    public int story(int k, int n) {
        if (!isStory(k) || !tapeHas(n, STORY_BYTES)) {
            return NONE;
        }
        Text text = scribe.writeExpression(tape.bytes, n);
        tape.clear();
        if (text == null) {
            return scribe.faultCode();
        }
        nights.stories[k] = text;
        return text.clauses;
    }

    public int star(int day, int minute) {
        return isDay(day) && isMinute(minute) ? starMinute(day, minute) : NONE;
    }

    public int height(int i, int day, int minute) {
        Source source = sky.sourceAt(i);
        if (source == null || !isDay(day) || !isMinute(minute)) {
            return NONE;
        }
        return sky.heightOf(source, day, minute);
    }

    public int paper(int day, int minute, int what) {
        if (!isDay(day) || !isMinute(minute) || !isWithin(what, 0, 1)) {
            return NONE;
        }
        sky.lay(page, day);
        return what == 0 ? page.heights[minute] : page.shapes[minute];
    }

    public int marks(int k, int day, int what) {
        if (!isReader(k) || !isDay(day) || what < NONE) {
            return NONE;
        }
        sky.lay(page, day);
        page.read(k, ways[k]);
        return what == NONE ? page.marksOf(k) : page.markNumber(k, what);
    }

    public int passed(int x, int y, int from, int to, int what) {
        boolean such = isReader(x) && isReader(y) && isDay(from) && isDay(to) && isWithin(what, 0, 2);
        if (!such || from > to || to - from >= PASSED_DAYS) {
            return NONE;
        }
        int many = 0;
        for (int day = from; day <= to; day++) {
            sky.lay(page, day);
            page.read(x, ways[x]);
            page.read(y, ways[y]);
            int here = page.passedMarks(x, y);
            if (here > 0 && what > 0) {
                return what == 1 ? day : page.firstPassed(x, y);
            }
            many += here;
        }
        return what == 0 ? many : NONE;
    }

    public int note(int day, int minute, int shape) {
        boolean such = isDay(day) && isMinute(minute) && isShape(shape);
        return such ? notes.add(day, minute, shape) : NONE;
    }

    public int one(int shape, int w) {
        if (!isShape(shape) || !isWithin(w, 0, WIDEST_ARC)) {
            return NONE;
        }
        return notes.oneBy(shape, w, DAYS);
    }

    public int known(int shape, int w) {
        if (!isShape(shape) || !isWithin(w, 0, WIDEST_ARC)) {
            return NONE;
        }
        return notes.knownDay(shape, w);
    }

    public int row(int shape, int w, int what) {
        if (!isShape(shape) || !isWithin(w, 0, WIDEST_ARC) || !isWithin(what, 0, 1)) {
            return NONE;
        }
        return notes.longestRow(shape, w, what);
    }

    public int blip(int time) {
        return isWithin(time, 0, LATEST_BLIP) ? blips.add(time) : NONE;
    }

    public int fits(int p, int e) {
        if (!isBeat(p) || !isWithin(e, 0, BEAT_ERROR) || 2 * e >= p || blips.many < 2) {
            return NONE;
        }
        return blips.fitTo(p, e) ? 1 : 0;
    }

    public int beats(int from, int to, int e, int what) {
        if (!canScan(from, to, e) || !isWithin(what, 0, 2)) {
            return NONE;
        }
        blips.scan(from, to, e);
        if (what == 0) {
            return blips.fitting;
        }
        return what == 1 ? blips.least : blips.greatest;
    }

    public int counted(int i, int p) {
        return isBeat(p) && isWithin(i, 0, blips.many - 1) ? blips.beatsTo(i, p) : NONE;
    }

    public int sure(int from, int to, int e) {
        if (!canScan(from, to, e)) {
            return NONE;
        }
        blips.scan(from, to, e);
        if (blips.fitting == 0) {
            return NOTHING;
        }
        return blips.countAlike(blips.least, blips.greatest) ? 1 : 0;
    }

    public int lost(int from, int to, int e) {
        if (!canScan(from, to, e)) {
            return NONE;
        }
        blips.scan(from, to, e);
        return blips.beatsTillLost();
    }

    public int night(int day, int shift) {
        return isDay(day) && isWithin(shift, -GREATEST_SHIFT, GREATEST_SHIFT) ? nights.add(day, shift) : NONE;
    }

    public int says(int k, int n) {
        Text story = nights.storyAt(k);
        if (story == null || !isWithin(n, 0, nights.many - 1)) {
            return UNSAID;
        }
        return nights.shiftBy(story, n);
    }

    public int falls(int k, int error) {
        Text story = nights.storyAt(k);
        return story == null || !isNightError(error) ? NONE : nights.fallOf(story, error);
    }

    public int told(int error, int what) {
        return isNightError(error) && isWithin(what, 0, 1) ? nights.alone(error, what) : NONE;
    }

    public int bound(int year, int error) {
        if (!isWithin(year, SHORTEST_YEAR, LONGEST_YEAR) || !isNightError(error)) {
            return NONE;
        }
        return nights.greatestOrbit(year, error);
    }

    public boolean there(int n, int ten) {
        if (!isWithin(n, 0, PEN_NIGHTS - 1) || !isWithin(ten, 0, TEN)) {
            return false;
        }
        lots.tens[n] = ten;
        return true;
    }

    public int pen(int k, int apart, int what) {
        boolean such = isWithin(k, 1, PEN_PLACES) && isWithin(apart, 1, PEN_APART)
                && (what == PEN_PLACES || isWithin(what, 0, k - 1));
        if (!such || (k - 1) * apart >= PEN_NIGHTS) {
            return NONE;
        }
        lots.choose(k, apart);
        return what == PEN_PLACES ? lots.unseen : lots.chosen[what];
    }

    public long odds(int a, int b, int c, int n, int what) {
        if (!isLook(a, b, c) || !isWithin(n, a + b - c, MOST_THERE) || !isWithin(what, 0, 1)) {
            return NONE;
        }
        long above = Lots.drawsWith(a, b, c, n);
        long below = Lots.choices(n, b);
        long common = Lots.commonDivisor(above, below);
        return (what == 0 ? above : below) / common;
    }

    public int more(int a, int b, int c, int thousandths, int what) {
        if (!isLook(a, b, c) || !isWithin(thousandths, 1, 1000) || !isWithin(what, 0, 1)) {
            return NONE;
        }
        int last = NOTHING;
        for (int n = a + b - c; n <= MOST_THERE; n++) {
            if (Lots.drawsWith(a, b, c, n) * 1000 >= Lots.choices(n, b) * thousandths) {
                if (what == 0) {
                    return n;
                }
                last = n;
            }
        }
        return last;
    }

    public int check(int k, int day, int n) {
        if (!isReader(k) || !isDay(day) || !isWithin(n, 0, tape.length / 12)) {
            return NOTHING;
        }
        sky.lay(page, day);
        page.read(k, ways[k]);
        int place = page.firstWrong(k, tape, n);
        tape.clear();
        return place;
    }

    public int count(int what) {
        switch (what) {
            case 0:
                return sky.many;
            case 1:
                return notes.many;
            case 2:
                return blips.many;
            case 3:
                return nights.many;
            case 4:
                return sky.seed;
            case 5:
                return tape.length;
            default:
                return textCount(what);
        }
    }

    private int textCount(int what) {
        if (isWithin(what, 10, 10 + sky.many - 1)) {
            Source source = sky.sourceAt(what - 10);
            return source == null ? NONE : clausesOf(source.law);
        }
        if (isWithin(what, 20, 20 + READERS - 1)) {
            return clausesOf(ways[what - 20]);
        }
        if (isWithin(what, 30, 30 + STORIES - 1)) {
            return clausesOf(nights.stories[what - 30]);
        }
        return NONE;
    }

    private boolean tapeHas(int n, int most) {
        return isWithin(n, 1, most) && n <= tape.length;
    }

    private boolean canScan(int from, int to, int e) {
        boolean such = isBeat(from) && isBeat(to) && isWithin(e, 0, BEAT_ERROR);
        return such && from <= to && to - from <= BEATS_APART && 2 * e < from && blips.many >= 2;
    }

    private static int clausesOf(Text text) {
        return text == null ? 0 : text.clauses;
    }

    private static boolean isWithin(int x, int from, int to) {
        return x >= from && x <= to;
    }

    private static boolean isDay(int day) {
        return isWithin(day, 0, DAYS - 1);
    }

    private static boolean isMinute(int minute) {
        return isWithin(minute, 0, MINUTES - 1);
    }

    private static boolean isShape(int shape) {
        return isWithin(shape, 0, SHAPES - 1);
    }

    private static boolean isReader(int k) {
        return isWithin(k, 0, READERS - 1);
    }

    private static boolean isStory(int k) {
        return isWithin(k, 0, STORIES - 1);
    }

    private static boolean isBeat(int p) {
        return isWithin(p, 1, LONGEST_BEAT);
    }

    private static boolean isNightError(int error) {
        return isWithin(error, 0, GREATEST_SHIFT);
    }

    private static boolean isLook(int a, int b, int c) {
        return isWithin(a, 0, SEEN) && isWithin(b, 0, SEEN) && isWithin(c, 0, Math.min(a, b));
    }

    private static int starMinute(int day, int minute) {
        return (minute + STAR_STEP * day) % MINUTES;
    }

    private static int minutesApart(int x, int y) {
        int straight = Math.abs(x - y);
        return Math.min(straight, MINUTES - straight);
    }

    /** Whether the first many of the values, each from 0 to below round, lie on some arc; one that all lie on begins at one of them. */
    private static boolean lieOnArc(int[] values, int many, int round, int arc) {
        for (int i = 0; i < many; i++) {
            if (lieOnArcFrom(values[i], values, many, round, arc)) {
                return true;
            }
        }
        return false;
    }

    private static boolean lieOnArcFrom(int begin, int[] values, int many, int round, int arc) {
        for (int i = 0; i < many; i++) {
            int ahead = values[i] - begin;
            if ((ahead < 0 ? ahead + round : ahead) > arc) {
                return false;
            }
        }
        return true;
    }

    /** The bytes that were fed and not yet used. */
    static final class Tape {
        final int[] bytes = new int[TAPE_BYTES];
        int length = 0;

        void put(int word) {
            for (int shift = 24; shift >= 0 && length < bytes.length; shift -= 8) {
                bytes[length] = word >>> shift & 255;
                length++;
            }
        }

        int wordAt(int i) {
            int at = 4 * i;
            if (at < 0 || at + 3 >= length) {
                return 0;
            }
            return bytes[at] << 24 | bytes[at + 1] << 16 | bytes[at + 2] << 8 | bytes[at + 3];
        }

        void clear() {
            length = 0;
        }
    }

    /**
     * A law, a way or a story, written as words for the reckoner. A word holds a sign in its lowest
     * eight bits and above them what belongs to it. Clause i has its E from starts[i] to middles[i]
     * and its C from there to starts[i + 1].
     */
    static final class Text {
        final int clauses;
        final int[] code;
        final int[] starts;
        final int[] middles;

        Text(int clauses, int[] code, int[] starts, int[] middles) {
            this.clauses = clauses;
            this.code = code;
            this.starts = starts;
            this.middles = middles;
        }
    }

    /** Writes texts out of bytes, or tells the first fault from the left. */
    static final class Scribe {
        private final int[] code = new int[TEXT_BYTES];
        private final int[] starts = new int[CLAUSES + 1];
        private final int[] middles = new int[CLAUSES];
        private int[] bytes = new int[0];
        private int length = 0;
        private int at = 0;
        private int used = 0;
        private int fault = 0;

        /** The law (letter h) or the way (letter k) that the bytes are; null: a fault. */
        Text writeClauses(int[] from, int many, char letter) {
            begin(from, many);
            for (int i = 0; i < CLAUSES; i++) {
                if (!clauseStands(letter, i)) {
                    return null;
                }
                if (at == length) {
                    return written(i + 1);
                }
                if (!signStands(';')) {
                    return null;
                }
            }
            fail(next() == letter ? TOO_MANY_CLAUSES : CANNOT_STAND);
            return null;
        }

        /** The story that the bytes are; null: a fault. */
        Text writeExpression(int[] from, int many) {
            begin(from, many);
            if (!rowStands(SUM, 0)) {
                return null;
            }
            if (at < length) {
                fail(CANNOT_STAND);
                return null;
            }
            middles[0] = used;
            starts[1] = used;
            return written(1);
        }

        int faultCode() {
            return -1000 * fault - at;
        }

        private void begin(int[] from, int many) {
            bytes = from;
            length = Math.min(many, from.length);
            at = 0;
            used = 0;
            fault = 0;
            starts[0] = 0;
        }

        private Text written(int clauses) {
            return new Text(clauses, Arrays.copyOf(code, used), Arrays.copyOf(starts, clauses + 1),
                    Arrays.copyOf(middles, clauses));
        }

        private int next() {
            return at < length ? bytes[at] : END;
        }

        private boolean fail(int number) {
            fault = number;
            return false;
        }

        private boolean signStands(char sign) {
            if (next() != sign) {
                return fail(CANNOT_STAND);
            }
            at++;
            return true;
        }

        private void put(int sign, int with) {
            if (used < code.length) {
                code[used] = with << 8 | sign;
                used++;
            }
        }

        /** Lets the word at a place, an & or a |, leap to where the code ends now. */
        private void leapHere(int place) {
            if (place < used) {
                code[place] = used << 8 | code[place] & 255;
            }
        }

        private boolean clauseStands(char letter, int i) {
            if (!signStands(letter) || letter == 'h' && !rowStands(SUM, 0)) {
                return false;
            }
            middles[i] = used;
            if (!signStands('(') || !rowStands(CONDITION, 1) || !signStands(')')) {
                return false;
            }
            starts[i + 1] = used;
            return true;
        }

        /** A C, a part, an E or a term: operands with signs of its own between two; so many brackets are open about it. */
        private boolean rowStands(int kind, int open) {
            if (!operandStands(kind, open)) {
                return false;
            }
            for (int i = 0; i < length && joins(kind, next()); i++) {
                int sign = next();
                int leap = used;
                boolean leaps = kind == CONDITION || kind == PART;
                if (leaps) {
                    put(sign, 0);
                }
                at++;
                if (!operandStands(kind, open)) {
                    return false;
                }
                if (leaps) {
                    leapHere(leap);
                } else {
                    put(sign, 0);
                }
            }
            return true;
        }

        private boolean operandStands(int kind, int open) {
            switch (kind) {
                case CONDITION:
                    return rowStands(PART, open);
                case PART:
                    return pieceStands(open);
                case SUM:
                    return rowStands(TERM, open);
                default:
                    return factorStands(open);
            }
        }

        private static boolean joins(int kind, int sign) {
            switch (kind) {
                case CONDITION:
                    return sign == '|';
                case PART:
                    return sign == '&';
                case SUM:
                    return sign == '+' || sign == '-';
                default:
                    return sign == '*' || sign == '/' || sign == '%';
            }
        }

        private boolean pieceStands(int open) {
            int first = next();
            if (first == '!' || first == '(') {
                if (open >= OPEN_AT_ONCE) {
                    return fail(TOO_DEEP);
                }
                at++;
                if (first == '(') {
                    return rowStands(CONDITION, open + 1) && signStands(')');
                }
                if (!pieceStands(open + 1)) {
                    return false;
                }
                put('!', 0);
                return true;
            }
            if (!rowStands(SUM, open)) {
                return false;
            }
            int sign = next();
            if (sign != '<' && sign != '>' && sign != '=') {
                return fail(CANNOT_STAND);
            }
            at++;
            if (!rowStands(SUM, open)) {
                return false;
            }
            put(sign, 0);
            return true;
        }

        private boolean factorStands(int open) {
            int sign = next();
            if (sign == '[') {
                if (open >= OPEN_AT_ONCE) {
                    return fail(TOO_DEEP);
                }
                at++;
                return rowStands(SUM, open + 1) && signStands(']');
            }
            if (isDigit(sign)) {
                return numberStands();
            }
            if (sign == END || LETTERS.indexOf((char) sign) < 0) {
                return fail(CANNOT_STAND);
            }
            put(LETTER, sign);
            at++;
            return true;
        }

        private boolean numberStands() {
            int number = 0;
            for (int i = 0; i < DIGITS && isDigit(next()); i++) {
                number = 10 * number + next() - '0';
                at++;
            }
            if (isDigit(next())) {
                return fail(SIXTH_DIGIT);
            }
            put(NUMBER, number);
            return true;
        }

        private static boolean isDigit(int sign) {
            return sign >= '0' && sign <= '9';
        }
    }

    /** Reckons texts. Each kind of text has a reckoner of its own, so that the letters of the others stay 0. */
    static final class Reckoner {
        final int[] letters = new int[SIGNS];
        private final int[] values = new int[VALUES];

        /** The first clause whose C holds, or NONE. */
        int firstThatHolds(Text text) {
            for (int i = 0; i < text.clauses; i++) {
                if (reckon(text.code, text.middles[i], text.starts[i + 1]) != 0) {
                    return i;
                }
            }
            return NONE;
        }

        /** The E of a clause. */
        int worth(Text text, int clause) {
            return reckon(text.code, text.starts[clause], text.middles[clause]);
        }

        /** What the words say (a C: 1 or 0); 0 if a division by 0 is refused, which suits an E as well as a C. */
        private int reckon(int[] code, int from, int to) {
            int many = 0;
            int leap = from;
            for (int at = from; at < to && at < code.length; at++) {
                if (at < leap) {
                    continue;
                }
                int sign = code[at] & 255;
                int with = code[at] >>> 8;
                if (sign == NUMBER || sign == LETTER) {
                    if (many >= VALUES) {
                        return 0;
                    }
                    values[many] = sign == NUMBER ? with : letters[with & SIGNS - 1];
                    many++;
                } else if (many < 1) {
                    return 0;
                } else if (sign == '!') {
                    values[many - 1] = 1 - values[many - 1];
                } else if (sign == '&' || sign == '|') {
                    // What is not asked is leapt over; the value that settles it stays as the answer.
                    if ((values[many - 1] != 0) == (sign == '|')) {
                        leap = with;
                    } else {
                        many--;
                    }
                } else {
                    if (many < 2 || isDivision(sign) && values[many - 1] == 0) {
                        return 0;
                    }
                    many--;
                    values[many - 1] = joined(sign, values[many - 1], values[many]);
                }
            }
            return many == 1 ? values[0] : 0;
        }

        private static boolean isDivision(int sign) {
            return sign == '/' || sign == '%';
        }

        private static int joined(int sign, int left, int right) {
            switch (sign) {
                case '+':
                    return left + right;
                case '-':
                    return left - right;
                case '*':
                    return left * right;
                case '/':
                    return right == 0 ? 0 : left / right;
                case '%':
                    return right == 0 ? 0 : left % right;
                case '<':
                    return left < right ? 1 : 0;
                case '>':
                    return left > right ? 1 : 0;
                default:
                    return left == right ? 1 : 0;
            }
        }
    }

    /** What comes by the stars or by the clock. */
    static final class Source {
        final int number;
        final boolean star;
        final int minute;
        final int wide;
        final int shape;
        final int weekdays;
        Text law = null;

        Source(int number, boolean star, int minute, int wide, int shape, int weekdays) {
            this.number = number;
            this.star = star;
            this.minute = minute;
            this.wide = wide;
            this.shape = shape;
            this.weekdays = weekdays;
        }

        boolean comesOn(int day) {
            return (weekdays >> day % WEEK & 1) == 1;
        }
    }

    /** The sources and the seed of their luck. */
    static final class Sky {
        private final Source[] sources = new Source[SOURCES];
        private final Reckoner reckoner = new Reckoner();
        int many = 0;
        int seed = 0;

        int add(Source source) {
            if (many >= SOURCES) {
                return NONE;
            }
            sources[many] = source;
            many++;
            return many - 1;
        }

        /** Source i, or null. */
        Source sourceAt(int i) {
            return isWithin(i, 0, many - 1) ? sources[i] : null;
        }

        int heightOf(Source source, int day, int minute) {
            int star = starMinute(day, minute);
            int away = minutesApart(source.star ? star : minute, source.minute);
            if (away > source.wide || !source.comesOn(day) || source.law == null) {
                return 0;
            }
            int[] letters = reckoner.letters;
            letters['d'] = day;
            letters['m'] = minute;
            letters['s'] = star;
            letters['a'] = away;
            letters['u'] = minutesApart(star, starMinute(day, NOON));
            letters['f'] = day % WEEK;
            letters['x'] = luck(source.number, day, minute);
            int clause = reckoner.firstThatHolds(source.law);
            return clause == NONE ? 0 : Math.max(0, Math.min(TALLEST, reckoner.worth(source.law, clause)));
        }

        /** Lays the paper of a day on the page, unless it lies there. */
        void lay(Page page, int day) {
            if (page.day == day) {
                return;
            }
            page.clear(day);
            for (int i = 0; i < many; i++) {
                Source source = sources[i];
                if (source != null && source.law != null && source.comesOn(day)) {
                    layOne(page, source);
                }
            }
        }

        private void layOne(Page page, Source source) {
            int middle = source.star ? source.minute - STAR_STEP * page.day : source.minute;
            for (int off = -source.wide; off <= source.wide; off++) {
                int minute = Math.floorMod(middle + off, MINUTES);
                page.add(minute, heightOf(source, page.day, minute), source.shape);
            }
        }

        // Wrap-around does no harm: 65536 divides what is wrapped away.
        private int luck(int number, int day, int minute) {
            int lot = seed + 1009 * day + 9176 * minute + 31 * number;
            return (lot * 25173 + 13849 & 65535) % 100;
        }
    }

    /** The paper of one day, kept till something changes it, and what the readers marked on it. */
    static final class Page {
        final int[] heights = new int[MINUTES];
        final int[] shapes = new int[MINUTES];
        private final int[] highest = new int[MINUTES];
        private final int[] marked = new int[MINUTES];
        private final Reckoner reckoner = new Reckoner();
        private int readers = 0;
        int day = NONE;

        void forget() {
            day = NONE;
        }

        void forgetReader(int k) {
            readers &= ~(1 << k);
        }

        void clear(int newDay) {
            day = newDay;
            readers = 0;
            Arrays.fill(heights, 0);
            Arrays.fill(highest, 0);
            Arrays.fill(shapes, SHAPES);
        }

        void add(int minute, int height, int shape) {
            heights[minute] += height;
            if (height > highest[minute]) {
                highest[minute] = height;
                shapes[minute] = shape;
            }
        }

        /** Lets reader k mark the page, unless that was done. */
        void read(int k, Text way) {
            int bit = 1 << k;
            if ((readers & bit) != 0) {
                return;
            }
            readers |= bit;
            int[] letters = reckoner.letters;
            letters['d'] = day;
            letters['f'] = day % WEEK;
            letters['t'] = 0;
            int greatest = 0;
            for (int minute = 0; minute < MINUTES; minute++) {
                greatest = greatestBefore(minute, greatest);
                letters['g'] = greatest;
                letters['h'] = heights[minute];
                letters['b'] = minute > 0 ? heights[minute - 1] : 0;
                letters['l'] = shapes[minute];
                letters['m'] = minute;
                letters['s'] = starMinute(day, minute);
                if (isMarked(k, minute - 2) && !isMarked(k, minute - 1)) {
                    letters['t']++;
                }
                boolean holds = way != null && reckoner.firstThatHolds(way) != NONE;
                marked[minute] = holds ? marked[minute] | bit : marked[minute] & ~bit;
            }
        }

        /** The greatest paper of the ten minutes before, by that of the minute before this one. */
        private int greatestBefore(int minute, int earlier) {
            if (minute > 0 && heights[minute - 1] >= earlier) {
                return heights[minute - 1];
            }
            int gone = minute - MINUTES_BEFORE - 1;
            boolean stays = gone < 0 || heights[gone] < earlier;
            return stays ? earlier : greatestOf(gone + 1, minute - 1);
        }

        private int greatestOf(int first, int last) {
            int greatest = 0;
            for (int minute = first; minute <= last && minute < MINUTES; minute++) {
                greatest = Math.max(greatest, heights[minute]);
            }
            return greatest;
        }

        private boolean isMarked(int k, int minute) {
            return isMinute(minute) && (marked[minute] >> k & 1) == 1;
        }

        private boolean beginsMark(int k, int minute) {
            return isMarked(k, minute) && !isMarked(k, minute - 1);
        }

        private int lastOf(int k, int first) {
            int last = first;
            while (last + 1 < MINUTES && isMarked(k, last + 1)) {
                last++;
            }
            return last;
        }

        int marksOf(int k) {
            int many = 0;
            for (int minute = 0; minute < MINUTES; minute++) {
                many += beginsMark(k, minute) ? 1 : 0;
            }
            return many;
        }

        /** Of all numbers of the marks, three each, the one at a place; NONE if there is none. */
        int markNumber(int k, int place) {
            int before = place / 3;
            for (int minute = 0; minute < MINUTES; minute++) {
                if (beginsMark(k, minute)) {
                    if (before == 0) {
                        return numberOf(k, minute, place % 3);
                    }
                    before--;
                }
            }
            return NONE;
        }

        /** Of the mark that begins at a minute its first minute, its last, or its greatest paper. */
        private int numberOf(int k, int first, int which) {
            if (which == 0) {
                return first;
            }
            int last = lastOf(k, first);
            return which == 1 ? last : greatestOf(first, last);
        }

        /** Whether at a minute a mark of y begins that has no minute in common with one of x. */
        private boolean beginsPassed(int x, int y, int first) {
            if (!beginsMark(y, first)) {
                return false;
            }
            for (int minute = first; minute < MINUTES && isMarked(y, minute); minute++) {
                if (isMarked(x, minute)) {
                    return false;
                }
            }
            return true;
        }

        int passedMarks(int x, int y) {
            int many = 0;
            for (int minute = 0; minute < MINUTES; minute++) {
                many += beginsPassed(x, y, minute) ? 1 : 0;
            }
            return many;
        }

        int firstPassed(int x, int y) {
            for (int minute = 0; minute < MINUTES; minute++) {
                if (beginsPassed(x, y, minute)) {
                    return minute;
                }
            }
            return NONE;
        }

        /** The place of the first of 3 n numbers of the tape that is not a mark's; 3 n if marks are lacking; NONE if all is right. */
        int firstWrong(int k, Tape tape, int n) {
            int place = 0;
            for (int minute = 0; minute < MINUTES; minute++) {
                if (beginsMark(k, minute)) {
                    if (place >= 3 * n) {
                        return place;
                    }
                    for (int which = 0; which < 3; which++) {
                        if (tape.wordAt(place) != numberOf(k, minute, which)) {
                            return place;
                        }
                        place++;
                    }
                }
            }
            return place < 3 * n ? place : NONE;
        }
    }

    /** What was noted, day by day. */
    static final class Notes {
        private final int[] days = new int[NOTES];
        private final int[] minutes = new int[NOTES];
        private final int[] shapes = new int[NOTES];
        private final int[] gathered = new int[NOTES];
        int many = 0;

        int add(int day, int minute, int shape) {
            if (many >= NOTES || many > 0 && day < days[many - 1]) {
                return NONE;
            }
            days[many] = day;
            minutes[many] = minute;
            shapes[many] = shape;
            many++;
            return many - 1;
        }

        /** Gathers the minutes (by the stars or by the clock) of the notes of a shape up to a day: how many. */
        private int gather(int shape, int lastDay, boolean byStar) {
            int found = 0;
            for (int i = 0; i < many; i++) {
                if (shapes[i] == shape && days[i] <= lastDay) {
                    gathered[found] = byStar ? starMinute(days[i], minutes[i]) : minutes[i];
                    found++;
                }
            }
            return found;
        }

        /** By which the notes of a shape up to a day are one, as bits; NONE if they are fewer than two. */
        int oneBy(int shape, int w, int lastDay) {
            int found = gather(shape, lastDay, true);
            if (found < 2) {
                return NONE;
            }
            int bits = lieOnArc(gathered, found, MINUTES, w) ? BY_STAR : 0;
            gather(shape, lastDay, false);
            return lieOnArc(gathered, found, MINUTES, w) ? bits | BY_CLOCK : bits;
        }

        int knownDay(int shape, int w) {
            for (int i = 0; i < many; i++) {
                if (shapes[i] == shape) {
                    int bits = oneBy(shape, w, days[i]);
                    if (bits == BY_STAR || bits == BY_CLOCK) {
                        return days[i];
                    }
                }
            }
            return NONE;
        }

        /** Of the longest row of a shape how many notes it has (what 0) or where its arc begins (what 1); NONE without notes. */
        int longestRow(int shape, int w, int what) {
            int found = gather(shape, DAYS, true);
            int longest = 0;
            int begin = NONE;
            for (int i = 0; i < found; i++) {
                int length = rowFrom(gathered[i], found, w);
                if (length > longest || length == longest && gathered[i] < begin) {
                    longest = length;
                    begin = gathered[i];
                }
            }
            return what == 0 && found > 0 ? longest : begin;
        }

        private int rowFrom(int begin, int found, int w) {
            int length = 0;
            for (int i = 0; i < found; i++) {
                length += Math.floorMod(gathered[i] - begin, MINUTES) <= w ? 1 : 0;
            }
            return length;
        }
    }

    /** Blips, and what the last scan over beats found. */
    static final class Blips {
        private final int[] times = new int[BLIPS];
        private final int[] rests = new int[BLIPS];
        int many = 0;
        int fitting = 0;
        int least = NONE;
        int greatest = NONE;

        int add(int time) {
            if (many >= BLIPS || many > 0 && time <= times[many - 1]) {
                return NONE;
            }
            times[many] = time;
            many++;
            return many - 1;
        }

        boolean fitTo(int beat, int error) {
            if (beat < 1) {
                return false;
            }
            for (int i = 0; i < many; i++) {
                rests[i] = times[i] % beat;
            }
            return lieOnArc(rests, many, beat, 2 * error);
        }

        void scan(int from, int to, int error) {
            fitting = 0;
            least = NONE;
            greatest = NONE;
            for (int beat = from; beat <= to; beat++) {
                if (fitTo(beat, error)) {
                    least = fitting == 0 ? beat : least;
                    greatest = beat;
                    fitting++;
                }
            }
        }

        int beatsTo(int i, int beat) {
            if (beat < 1) {
                return NONE;
            }
            long twice = 2L * (times[i] - times[0]);
            return (int) ((twice + beat) / (2L * beat));
        }

        /** A longer beat never counts more, so if the least and the greatest count alike, all between them do. */
        boolean countAlike(int shorter, int longer) {
            for (int i = 0; i < many; i++) {
                if (beatsTo(i, shorter) != beatsTo(i, longer)) {
                    return false;
                }
            }
            return true;
        }

        int beatsTillLost() {
            int twice = 2 * (greatest - least);
            return twice <= 0 ? NOTHING : (least + twice - 1) / twice;
        }
    }

    /** What was found night by night, and the stories about it. */
    static final class Nights {
        private final int[] days = new int[NIGHTS];
        private final int[] shifts = new int[NIGHTS];
        private final int[] fallen = new int[STORIES];
        private final Reckoner reckoner = new Reckoner();
        final Text[] stories = new Text[STORIES];
        int many = 0;

        int add(int day, int shift) {
            if (many >= NIGHTS) {
                return NONE;
            }
            days[many] = day;
            shifts[many] = shift;
            many++;
            return many - 1;
        }

        /** Story k, or null. */
        Text storyAt(int k) {
            return isStory(k) ? stories[k] : null;
        }

        int shiftBy(Text text, int night) {
            reckoner.letters['d'] = days[night];
            reckoner.letters['n'] = night;
            return reckoner.worth(text, 0);
        }

        int fallOf(Text text, int error) {
            for (int i = 0; i < many; i++) {
                if (Math.abs((long) shiftBy(text, i) - shifts[i]) > error) {
                    return i;
                }
            }
            return NOTHING;
        }

        /** The first night behind which one story alone stands (what 0), or that story (what 1). */
        int alone(int error, int what) {
            for (int k = 0; k < STORIES; k++) {
                fallen[k] = stories[k] == null ? 0 : fallOf(stories[k], error);
            }
            for (int i = 0; i < many; i++) {
                int standing = 0;
                int last = NONE;
                for (int k = 0; k < STORIES; k++) {
                    if (fallen[k] == NOTHING || fallen[k] > i) {
                        standing++;
                        last = k;
                    }
                }
                if (standing == 1) {
                    return what == 0 ? i : last;
                }
            }
            return NONE;
        }

        int greatestOrbit(int year, int error) {
            int greatest = NOTHING;
            for (int begun = 0; begun < year; begun++) {
                greatest = Math.max(greatest, greatestSize(year, begun, error));
            }
            return greatest;
        }

        /** For one beginning each night leaves a span of sizes, as the shift grows with the size: the greatest that all leave. */
        private int greatestSize(int year, int begun, int error) {
            int least = 0;
            int greatest = GREATEST_SIZE;
            for (int i = 0; i < many && year > 0; i++) {
                int wave = waveAt((days[i] + begun) % year, year);
                int found = wave < 0 ? -shifts[i] : shifts[i];
                int low = found - error;
                int high = found + error;
                int steep = Math.abs(wave);
                if (high < 0 || steep == 0 && low > 0) {
                    return NOTHING;
                }
                if (steep > 0) {
                    greatest = Math.min(greatest, ((high + 1) * 1000 - 1) / steep);
                    least = low <= 0 ? least : Math.max(least, (low * 1000 + steep - 1) / steep);
                }
            }
            return least <= greatest ? greatest : NOTHING;
        }

        private static int waveAt(int k, int year) {
            if (year < 1) {
                return 0;
            }
            int quotient = 4000 * k / year;
            if (4 * k < year) {
                return quotient;
            }
            return 4 * k < 3 * year ? 2000 - quotient : quotient - 4000;
        }
    }

    /** When to put on the quick pen, and lots drawn. */
    static final class Lots {
        private static final int ROW = PEN_NIGHTS + 1;

        final int[] tens = new int[PEN_NIGHTS];
        final int[] chosen = new int[PEN_PLACES];
        private final int[] best = new int[(PEN_PLACES + 1) * ROW];
        int unseen = 0;

        /** Chooses k nights: unseen is in how many cases of ten to the k all of them miss. */
        void choose(int k, int apart) {
            weigh(k, apart);
            unseen = best[k * ROW];
            int missed = 1;
            int night = 0;
            for (int place = 0; place < k; place++) {
                int rest = k - place - 1;
                while (night < PEN_NIGHTS - 1 && !goesOn(missed, night, rest, apart)) {
                    night++;
                }
                chosen[place] = night;
                missed *= TEN - tens[night];
                night = Math.min(PEN_NIGHTS - 1, night + apart);
            }
        }

        /** best[j * ROW + n]: the least product of misses of j nights from night n on; NONE if so many do not go. */
        private void weigh(int k, int apart) {
            for (int j = 0; j <= k; j++) {
                best[j * ROW + PEN_NIGHTS] = j == 0 ? 1 : NONE;
                for (int night = PEN_NIGHTS - 1; night >= 0; night--) {
                    int without = best[j * ROW + night + 1];
                    int with = j == 0 ? 1 : missesFrom(night, j - 1, apart);
                    boolean taken = with != NONE && (without == NONE || with < without);
                    best[j * ROW + night] = taken ? with : without;
                }
            }
        }

        /** The least product of a night and so many more behind it; NONE if they do not go. */
        private int missesFrom(int night, int rest, int apart) {
            int behind = best[rest * ROW + Math.min(PEN_NIGHTS, night + apart)];
            return behind == NONE ? NONE : (TEN - tens[night]) * behind;
        }

        // By the whole product, not the rest's: once a night is sure, the least rest is as good as any.
        private boolean goesOn(int missed, int night, int rest, int apart) {
            int misses = missesFrom(night, rest, apart);
            return misses != NONE && missed * misses == unseen;
        }

        /** In how many ways k of n can be chosen. */
        static long choices(int n, int k) {
            long ways = 1;
            for (int i = 1; i <= k; i++) {
                ways = ways * (n - k + i) / i;
            }
            return ways;
        }

        /** In how many of those ways the second's b of n hold just c of the first's a. */
        static long drawsWith(int a, int b, int c, int n) {
            return choices(a, c) * choices(n - a, b - c);
        }

        /** The greatest common divisor, 1 at least. */
        static long commonDivisor(long x, long y) {
            long greater = x;
            long less = y;
            for (int i = 0; i < 100 && less != 0; i++) {
                long rest = greater % less;
                greater = less;
                less = rest;
            }
            return Math.max(1, greater);
        }
    }
}
