import java.math.BigInteger;
import java.util.ArrayList;
import java.util.Arrays;
import java.util.List;

/**
 * The document once more, slow and by other means than the program: every answer is found by trying
 * all there is to try. Random runs hold the program against it.
 */
final class PlainPaper {
    private record Source(boolean star, int minute, int wide, int shape, int weekdays) {
    }

    private record Note(int day, int minute, int shape) {
    }

    private record Mark(int first, int last, int greatest) {
    }

    private record Night(int day, int shift) {
    }

    private final List<Source> sources = new ArrayList<>();
    private final PlainText[] laws = new PlainText[10];
    private final PlainText[] ways = new PlainText[4];
    private final PlainText[] stories = new PlainText[6];
    private final List<Integer> tape = new ArrayList<>();
    private final List<Note> notes = new ArrayList<>();
    private final List<Integer> blips = new ArrayList<>();
    private final List<Night> nights = new ArrayList<>();
    private final int[] tens = new int[40];
    private int seed = 0;

    private static boolean in(int x, int from, int to) {
        return from <= x && x <= to;
    }

    private static int round(int x, int y) {
        int up = Math.floorMod(x - y, 1440);
        int down = Math.floorMod(y - x, 1440);
        return Math.min(up, down);
    }

    int source(boolean star, int minute, int wide, int shape, int weekdays) {
        if (!in(minute, 0, 1439) || !in(wide, 0, 30) || !in(shape, 0, 3) || !in(weekdays, 0, 127) || sources.size() == 10) {
            return -1;
        }
        sources.add(new Source(star, minute, wide, shape, weekdays));
        return sources.size() - 1;
    }

    boolean seed(int n) {
        if (in(n, 0, 999)) {
            seed = n;
            return true;
        }
        return false;
    }

    int feed(int a, int b, int c, int d, int e) {
        if (tape.size() + 20 > 200) {
            return -1;
        }
        for (int word : new int[] {a, b, c, d, e}) {
            for (byte part : BigInteger.valueOf(word & 0xffffffffL | 1L << 32).toByteArray()) {
                tape.add(part & 255);
            }
            tape.remove(tape.size() - 5);
        }
        return tape.size();
    }

    private int write(PlainText[] texts, int i, int n, char kind) {
        StringBuilder text = new StringBuilder();
        for (int at = 0; at < n; at++) {
            text.append((char) (int) tape.get(at));
        }
        tape.clear();
        int fault = PlainText.fault(text.toString(), kind);
        if (fault != 0) {
            return fault;
        }
        texts[i] = new PlainText(text.toString(), kind);
        return texts[i].clauses();
    }

    int law(int i, int n) {
        return in(i, 0, sources.size() - 1) && in(n, 1, 120) && n <= tape.size() ? write(laws, i, n, 'h') : -1;
    }

    int way(int k, int n) {
        return in(k, 0, 3) && in(n, 1, 120) && n <= tape.size() ? write(ways, k, n, 'k') : -1;
    }

    int story(int k, int n) {
        return in(k, 0, 5) && in(n, 1, 60) && n <= tape.size() ? write(stories, k, n, 'e') : -1;
    }

    /** Takes over a story of another paper, for tests that ask what it would say. */
    void tell(PlainPaper other, int k) {
        stories[k] = other.stories[k];
    }

    int star(int day, int minute) {
        return in(day, 0, 399) && in(minute, 0, 1439) ? (minute + 4 * day) % 1440 : -1;
    }

    int height(int i, int day, int minute) {
        if (!in(i, 0, sources.size() - 1) || !in(day, 0, 399) || !in(minute, 0, 1439)) {
            return -1;
        }
        Source source = sources.get(i);
        int s = star(day, minute);
        int a = round(source.star ? s : minute, source.minute);
        if (a > source.wide || (source.weekdays & 1 << day % 7) == 0 || laws[i] == null) {
            return 0;
        }
        long lot = (seed + 1009L * day + 9176L * minute + 31L * i) * 25173L + 13849L;
        int[] letters = new int[128];
        letters['d'] = day;
        letters['m'] = minute;
        letters['s'] = s;
        letters['a'] = a;
        letters['u'] = round(s, (720 + 4 * day) % 1440);
        letters['f'] = day % 7;
        letters['x'] = (int) (lot % 65536 % 100);
        return Math.max(0, Math.min(1000, laws[i].height(letters)));
    }

    int paper(int day, int minute, int what) {
        if (!in(day, 0, 399) || !in(minute, 0, 1439) || !in(what, 0, 1)) {
            return -1;
        }
        int sum = 0;
        int shape = 4;
        int best = 0;
        for (int i = 0; i < sources.size(); i++) {
            int high = height(i, day, minute);
            sum += high;
            if (high > best) {
                best = high;
                shape = sources.get(i).shape;
            }
        }
        return what == 0 ? sum : shape;
    }

    private List<Mark> marksOf(int k, int day) {
        List<Mark> marks = new ArrayList<>();
        if (ways[k] == null) {
            return marks;
        }
        int[] papers = new int[1440];
        for (int m = 0; m < 1440; m++) {
            papers[m] = paper(day, m, 0);
        }
        int[] letters = new int[128];
        for (int m = 0; m < 1440; m++) {
            letters['h'] = papers[m];
            letters['b'] = m == 0 ? 0 : papers[m - 1];
            letters['g'] = 0;
            for (int ago = 1; ago <= 10 && ago <= m; ago++) {
                letters['g'] = Math.max(letters['g'], papers[m - ago]);
            }
            letters['l'] = paper(day, m, 1);
            letters['m'] = m;
            letters['s'] = star(day, m);
            letters['d'] = day;
            letters['f'] = day % 7;
            letters['t'] = 0;
            for (Mark mark : marks) {
                letters['t'] += mark.last < m - 1 ? 1 : 0;
            }
            if (ways[k].holds(letters)) {
                Mark open = marks.isEmpty() ? null : marks.get(marks.size() - 1);
                if (open != null && open.last == m - 1) {
                    marks.set(marks.size() - 1, new Mark(open.first, m, Math.max(open.greatest, papers[m])));
                } else {
                    marks.add(new Mark(m, m, papers[m]));
                }
            }
        }
        return marks;
    }

    private List<Integer> numbersOf(int k, int day) {
        List<Integer> numbers = new ArrayList<>();
        for (Mark mark : marksOf(k, day)) {
            numbers.addAll(List.of(mark.first, mark.last, mark.greatest));
        }
        return numbers;
    }

    int marks(int k, int day, int what) {
        if (!in(k, 0, 3) || !in(day, 0, 399)) {
            return -1;
        }
        List<Integer> numbers = numbersOf(k, day);
        if (what == -1) {
            return numbers.size() / 3;
        }
        return in(what, 0, numbers.size() - 1) ? numbers.get(what) : -1;
    }

    int passed(int x, int y, int from, int to, int what) {
        if (!in(x, 0, 3) || !in(y, 0, 3) || !in(from, 0, 399) || !in(to, from, 399) || to - from + 1 > 30 || !in(what, 0, 2)) {
            return -1;
        }
        int many = 0;
        int firstDay = -1;
        int firstMinute = -1;
        for (int day = from; day <= to; day++) {
            List<Mark> own = marksOf(x, day);
            for (Mark mark : marksOf(y, day)) {
                boolean met = false;
                for (Mark other : own) {
                    met |= other.first <= mark.last && mark.first <= other.last;
                }
                if (!met) {
                    firstDay = many == 0 ? day : firstDay;
                    firstMinute = many == 0 ? mark.first : firstMinute;
                    many++;
                }
            }
        }
        return what == 0 ? many : what == 1 ? firstDay : firstMinute;
    }

    int note(int day, int minute, int shape) {
        boolean earlier = !notes.isEmpty() && day < notes.get(notes.size() - 1).day;
        if (!in(day, 0, 399) || !in(minute, 0, 1439) || !in(shape, 0, 3) || earlier || notes.size() == 40) {
            return -1;
        }
        notes.add(new Note(day, minute, shape));
        return notes.size() - 1;
    }

    private List<Integer> minutesOf(int shape, int lastDay, boolean star) {
        List<Integer> minutes = new ArrayList<>();
        for (Note note : notes) {
            if (note.shape == shape && note.day <= lastDay) {
                minutes.add(star ? star(note.day, note.minute) : note.minute);
            }
        }
        return minutes;
    }

    private static int onArc(List<Integer> minutes, int begin, int w) {
        int many = 0;
        for (int minute : minutes) {
            for (int step = 0; step <= w; step++) {
                many += (begin + step) % 1440 == minute ? 1 : 0;
            }
        }
        return many;
    }

    private static boolean areOne(List<Integer> minutes, int w) {
        for (int begin = 0; begin < 1440; begin++) {
            if (minutes.contains(begin) && onArc(minutes, begin, w) == minutes.size()) {
                return true;
            }
        }
        return false;
    }

    private int oneUpTo(int shape, int w, int lastDay) {
        if (minutesOf(shape, lastDay, true).size() < 2) {
            return -1;
        }
        return (areOne(minutesOf(shape, lastDay, true), w) ? 1 : 0) + (areOne(minutesOf(shape, lastDay, false), w) ? 2 : 0);
    }

    int one(int shape, int w) {
        return in(shape, 0, 3) && in(w, 0, 700) ? oneUpTo(shape, w, 399) : -1;
    }

    int known(int shape, int w) {
        if (in(shape, 0, 3) && in(w, 0, 700)) {
            int before = 0;
            for (int day = 0; day < 400; day++) {
                int told = minutesOf(shape, day, true).size();
                int bits = told == before ? 0 : oneUpTo(shape, w, day);
                before = told;
                if (bits == 1 || bits == 2) {
                    return day;
                }
            }
        }
        return -1;
    }

    int row(int shape, int w, int what) {
        if (!in(shape, 0, 3) || !in(w, 0, 700) || !in(what, 0, 1)) {
            return -1;
        }
        List<Integer> minutes = minutesOf(shape, 399, true);
        int most = 0;
        int at = -1;
        for (int begin = 0; begin < 1440; begin++) {
            if (minutes.contains(begin) && onArc(minutes, begin, w) > most) {
                most = onArc(minutes, begin, w);
                at = begin;
            }
        }
        return most == 0 ? -1 : what == 0 ? most : at;
    }

    int blip(int time) {
        if (!in(time, 0, 1000000000) || !blips.isEmpty() && time <= blips.get(blips.size() - 1) || blips.size() == 40) {
            return -1;
        }
        blips.add(time);
        return blips.size() - 1;
    }

    /** All lie on an arc just if somewhere between two neighbours the rest of the round is left free. */
    private boolean fit(int p, int e) {
        int[] rests = new int[blips.size()];
        for (int i = 0; i < rests.length; i++) {
            rests[i] = blips.get(i) % p;
        }
        Arrays.sort(rests);
        int widest = rests[0] + p - rests[rests.length - 1];
        for (int i = 1; i < rests.length; i++) {
            widest = Math.max(widest, rests[i] - rests[i - 1]);
        }
        return p - widest <= 2 * e;
    }

    int fits(int p, int e) {
        if (!in(p, 1, 1000000) || !in(e, 0, 1000) || 2 * e >= p || blips.size() < 2) {
            return -1;
        }
        return fit(p, e) ? 1 : 0;
    }

    /** The beats that fit; null if there are no such ones. */
    private List<Integer> fitting(int from, int to, int e) {
        if (!in(from, 1, 1000000) || !in(to, from, 1000000) || to - from > 2000 || !in(e, 0, 1000) || 2 * e >= from || blips.size() < 2) {
            return null;
        }
        List<Integer> beats = new ArrayList<>();
        for (int p = from; p <= to; p++) {
            if (fit(p, e)) {
                beats.add(p);
            }
        }
        return beats;
    }

    int beats(int from, int to, int e, int what) {
        List<Integer> beats = fitting(from, to, e);
        if (beats == null || !in(what, 0, 2)) {
            return -1;
        }
        if (what == 0) {
            return beats.size();
        }
        return beats.isEmpty() ? -1 : beats.get(what == 1 ? 0 : beats.size() - 1);
    }

    int counted(int i, int p) {
        if (!in(i, 0, blips.size() - 1) || !in(p, 1, 1000000)) {
            return -1;
        }
        int time = blips.get(i) - blips.get(0);
        return time / p + (time % p >= p - time % p ? 1 : 0);
    }

    int sure(int from, int to, int e) {
        List<Integer> beats = fitting(from, to, e);
        if (beats == null) {
            return -1;
        }
        for (int p : beats) {
            for (int i = 0; i < blips.size(); i++) {
                if (counted(i, p) != counted(i, beats.get(0))) {
                    return 0;
                }
            }
        }
        return beats.isEmpty() ? -2 : 1;
    }

    int lost(int from, int to, int e) {
        List<Integer> beats = fitting(from, to, e);
        if (beats == null) {
            return -1;
        }
        if (beats.size() < 2) {
            return -2;
        }
        int apart = beats.get(beats.size() - 1) - beats.get(0);
        int n = 0;
        while (2L * n * apart < beats.get(0)) {
            n++;
        }
        return n;
    }

    int night(int day, int shift) {
        if (!in(day, 0, 399) || !in(shift, -100000, 100000) || nights.size() == 30) {
            return -1;
        }
        nights.add(new Night(day, shift));
        return nights.size() - 1;
    }

    int says(int k, int n) {
        if (!in(k, 0, 5) || stories[k] == null || !in(n, 0, nights.size() - 1)) {
            return -1000000;
        }
        int[] letters = new int[128];
        letters['d'] = nights.get(n).day;
        letters['n'] = n;
        return stories[k].worth(letters);
    }

    private boolean strays(int k, int n, int error) {
        BigInteger off = BigInteger.valueOf(says(k, n)).subtract(BigInteger.valueOf(nights.get(n).shift));
        return off.abs().compareTo(BigInteger.valueOf(error)) > 0;
    }

    int falls(int k, int error) {
        if (!in(k, 0, 5) || stories[k] == null || !in(error, 0, 100000)) {
            return -1;
        }
        for (int n = 0; n < nights.size(); n++) {
            if (strays(k, n, error)) {
                return n;
            }
        }
        return -2;
    }

    int told(int error, int what) {
        if (!in(error, 0, 100000) || !in(what, 0, 1)) {
            return -1;
        }
        List<Integer> standing = new ArrayList<>();
        for (int k = 0; k < 6; k++) {
            if (stories[k] != null) {
                standing.add(k);
            }
        }
        for (int n = 0; n < nights.size(); n++) {
            int now = n;
            standing.removeIf(k -> strays(k, now, error));
            if (standing.size() == 1) {
                return what == 0 ? n : standing.get(0);
            }
        }
        return -1;
    }

    private static int wave(int k, int year) {
        int quotient = Math.floorDiv(4000 * k, year);
        if (4 * k < year) {
            return quotient;
        }
        return 4 * k < 3 * year ? 2000 - quotient : quotient - 4000;
    }

    /** The shift on a day, counted from the beginning. */
    static int orbit(int year, int size, int day) {
        return size * wave(day % year, year) / 1000;
    }

    int bound(int year, int error) {
        if (!in(year, 4, 400) || !in(error, 0, 100000)) {
            return -1;
        }
        for (int size = 2000; size >= 0; size--) {
            for (int f = 0; f < year; f++) {
                boolean could = true;
                for (int n = 0; n < nights.size() && could; n++) {
                    int shift = orbit(year, size, nights.get(n).day + f);
                    could = Math.abs(shift - nights.get(n).shift) <= error;
                }
                if (could) {
                    return size;
                }
            }
        }
        return -2;
    }

    boolean there(int n, int ten) {
        if (!in(n, 0, 39) || !in(ten, 0, 10)) {
            return false;
        }
        tens[n] = ten;
        return true;
    }

    private int[] bestRow;
    private int bestMissed;

    private void tryRows(int[] row, int place, int from, int apart, int missed) {
        if (place == row.length) {
            if (bestRow == null || missed < bestMissed) {
                bestRow = row.clone();
                bestMissed = missed;
            }
            return;
        }
        for (int night = from; night < 40; night++) {
            row[place] = night;
            tryRows(row, place + 1, night + apart, apart, missed * (10 - tens[night]));
        }
    }

    int pen(int k, int apart, int what) {
        if (!in(k, 1, 6) || !in(apart, 1, 10) || what != 6 && !in(what, 0, k - 1)) {
            return -1;
        }
        bestRow = null;
        tryRows(new int[k], 0, 0, apart, 1);
        if (bestRow == null) {
            return -1;
        }
        return what == 6 ? bestMissed : bestRow[what];
    }

    private static BigInteger choose(int n, int k) {
        BigInteger ways = BigInteger.ONE;
        for (int i = 0; i < k; i++) {
            ways = ways.multiply(BigInteger.valueOf(n - i));
        }
        for (int i = 1; i <= k; i++) {
            ways = ways.divide(BigInteger.valueOf(i));
        }
        return ways;
    }

    private static BigInteger drawn(int a, int b, int c, int n) {
        return choose(a, c).multiply(choose(n - a, b - c));
    }

    long odds(int a, int b, int c, int n, int what) {
        if (!in(a, 0, 20) || !in(b, 0, 20) || !in(c, 0, a) || c > b || n < a || n < b || n < a + b - c || n > 40 || !in(what, 0, 1)) {
            return -1;
        }
        BigInteger above = drawn(a, b, c, n);
        BigInteger below = choose(n, b);
        BigInteger common = above.gcd(below);
        return (what == 0 ? above : below).divide(common).longValueExact();
    }

    int more(int a, int b, int c, int thousandths, int what) {
        if (!in(a, 0, 20) || !in(b, 0, 20) || !in(c, 0, a) || c > b || !in(thousandths, 1, 1000) || !in(what, 0, 1)) {
            return -1;
        }
        List<Integer> span = new ArrayList<>();
        for (int n = a + b - c; n <= 40; n++) {
            BigInteger floor = choose(n, b).multiply(BigInteger.valueOf(thousandths));
            if (drawn(a, b, c, n).multiply(BigInteger.valueOf(1000)).compareTo(floor) >= 0) {
                span.add(n);
            }
        }
        return span.isEmpty() ? -2 : span.get(what == 0 ? 0 : span.size() - 1);
    }

    int check(int k, int day, int n) {
        if (!in(k, 0, 3) || !in(day, 0, 399) || n < 0 || 12L * n > tape.size()) {
            return -2;
        }
        List<Integer> numbers = numbersOf(k, day);
        List<Integer> given = new ArrayList<>();
        for (int i = 0; i < 3 * n; i++) {
            long word = 0;
            for (int part = 0; part < 4; part++) {
                word = word * 256 + tape.get(4 * i + part);
            }
            given.add((int) word);
        }
        tape.clear();
        for (int i = 0; i < given.size(); i++) {
            if (i >= numbers.size() || !given.get(i).equals(numbers.get(i))) {
                return i;
            }
        }
        return given.size() < numbers.size() ? 3 * n : -1;
    }

    int count(int what) {
        if (in(what, 0, 5)) {
            return new int[] {sources.size(), notes.size(), blips.size(), nights.size(), seed, tape.size()}[what];
        }
        PlainText text;
        if (in(what, 10, 9 + sources.size())) {
            text = laws[what - 10];
        } else if (in(what, 20, 23)) {
            text = ways[what - 20];
        } else if (in(what, 30, 35)) {
            text = stories[what - 30];
        } else {
            return -1;
        }
        return text == null ? 0 : text.clauses();
    }
}
