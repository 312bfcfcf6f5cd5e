import java.math.BigInteger;
import java.util.ArrayDeque;
import java.util.ArrayList;
import java.util.Arrays;
import java.util.Deque;
import java.util.List;

/** The document again, as slow and as plain as can be, and with all of Java: to be held beside WeirWords. */
final class NaiveWeir {
    static final int NONE = -1000000, BAD = -1000001, STATE = -1000002, FULL = -1000003;

    abstract static class Word implements Cloneable {
        int number, size, cell;
        boolean gone;

        abstract int kind();

        abstract void go(River r, boolean wet);

        Word fresh() {
            try {
                return (Word) clone();
            } catch (CloneNotSupportedException e) {
                throw new IllegalStateException(e);
            }
        }

        int askSize(List<Integer> trace) {
            trace.add(10);
            return size;
        }

        int askMark(List<Integer> trace) {
            trace.add(20);
            return number;
        }
    }

    static class Stick extends Word {
        int kind() {
            return 1;
        }

        int far(int pace) {
            return pace;
        }

        void loseMore() {
        }

        void go(River r, boolean wet) {
            int to = cell + far(r.pace(cell, wet));
            if (to > r.speeds.length - 1) {
                size = 0;
                gone = true;
                return;
            }
            boolean fell = cell <= r.edge && to > r.edge;
            cell = to;
            if (fell) {
                size = size / 2;
            }
            loseMore();
            gone = size == 0;
        }

        int askSize(List<Integer> trace) {
            trace.add(11);
            int lent = super.askSize(trace);
            return lent + askMark(trace);
        }

        int askMark(List<Integer> trace) {
            trace.add(21);
            return super.askMark(trace) + cell;
        }
    }

    static final class Shout extends Stick {
        int kind() {
            return 2;
        }

        void loseMore() {
            size = Math.max(0, size - 1);
        }

        int askSize(List<Integer> trace) {
            trace.add(12);
            return -super.askSize(trace);
        }

        int askMark(List<Integer> trace) {
            trace.add(24);
            return 2 * super.askMark(trace);
        }
    }

    static final class Froth extends Stick {
        int kind() {
            return 3;
        }

        int far(int pace) {
            return pace == 0 ? 0 : Math.max(1, pace - 1);
        }

        int askMark(List<Integer> trace) {
            trace.add(22);
            return super.askMark(trace) - 1000;
        }
    }

    static class Salmon extends Word {
        int kind() {
            return 4;
        }

        int steps(River r) {
            return 1;
        }

        void go(River r, boolean wet) {
            for (int left = steps(r); left > 0; left--) {
                if (cell == 0 || r.pace(cell, wet) > 2) {
                    return;
                }
                boolean below = cell > r.edge;
                boolean stillBelow = cell - 1 > r.edge;
                if (below && !stillBelow && size < 20) {
                    return;
                }
                cell--;
            }
        }

        int askSize(List<Integer> trace) {
            trace.add(13);
            return super.askSize(trace) - 100;
        }

        int askMark(List<Integer> trace) {
            trace.add(23);
            int lent = super.askMark(trace);
            return lent - askSize(trace);
        }
    }

    static final class Eel extends Salmon {
        int kind() {
            return 5;
        }

        int steps(River r) {
            return r.minute % 2 == 0 ? 2 : 1;
        }

        int askSize(List<Integer> trace) {
            trace.add(14);
            return 2 * super.askSize(trace);
        }
    }

    static Word wordOf(int kind) {
        switch (kind) {
            case 1: return new Stick();
            case 2: return new Shout();
            case 3: return new Froth();
            case 4: return new Salmon();
            default: return new Eel();
        }
    }

    static final class River {
        int minute, rain, edge;
        int[] speeds;
        final List<Word> words = new ArrayList<>();

        River fresh() {
            River r = new River();
            r.minute = minute;
            r.rain = rain;
            r.edge = edge;
            r.speeds = speeds.clone();
            for (Word w : words) {
                r.words.add(w.fresh());
            }
            return r;
        }

        int pace(int cell, boolean wet) {
            return speeds[cell] > 0 && wet ? speeds[cell] + 1 : speeds[cell];
        }

        boolean wet() {
            return List.of(rain % 2, rain / 2 % 2, rain / 4 % 2, rain / 8).get(minute % 4) == 1;
        }

        River pass(boolean wet) {
            for (Word w : words) {
                if (!w.gone) {
                    w.go(this, wet);
                }
            }
            minute++;
            return this;
        }

        River later(int n) {
            River r = fresh();
            for (int i = 0; i < n; i++) {
                r.pass(r.wet());
            }
            return r;
        }

        int quarrel() {
            return words.stream().mapToInt(w -> w.size).sum();
        }

        int gone() {
            int bits = 0;
            for (Word w : words) {
                bits += w.gone ? 1 << w.number : 0;
            }
            return bits;
        }
    }

    final int[][] rows = new int[8][];
    final int[] lanes = new int[8];
    final StringBuilder tape = new StringBuilder();
    River river;
    final Deque<River> acts = new ArrayDeque<>();
    final River[] images = new River[2];
    List<Integer> trace = new ArrayList<>();
    int lastFault, status;

    private int found(int number) {
        status = number;
        return -1000010 - number;
    }

    private int good(int answer) {
        status = 0;
        return answer;
    }

    private static boolean in(int v, int a, int b) {
        return v >= a && v <= b;
    }

    int row(int row, int lane, int n) {
        if (!in(row, 0, 7) || !in(lane, 0, 2) || n > 40) return BAD;
        if (n < 0) return found(4);
        rows[row] = new int[n];
        lanes[row] = lane;
        return good(n);
    }

    int set(int row, int i, int v) {
        if (!in(row, 0, 7)) return BAD;
        if (rows[row] == null) return found(1);
        if (!in(i, 0, rows[row].length - 1)) return found(2);
        int bits = 8 << lanes[row];
        rows[row][i] = v << (32 - bits) >> (32 - bits);
        return good(rows[row][i]);
    }

    int copy(int a, int i, int b, int j, int n) {
        if (!in(a, 0, 7) || !in(b, 0, 7)) return BAD;
        if (rows[a] == null || rows[b] == null) return found(1);
        if (lanes[a] != lanes[b]) return found(5);
        if (i < 0 || j < 0 || n < 0 || (long) i + n > rows[a].length || (long) j + n > rows[b].length) return found(2);
        int[] were = rows[a].clone();
        for (int k = 0; k < n; k++) {
            rows[b][j + k] = were[i + k];
        }
        return good(n);
    }

    int drop(int row) {
        if (!in(row, 0, 7)) return BAD;
        if (rows[row] == null) return found(1);
        int n = rows[row].length;
        rows[row] = null;
        return good(n);
    }

    int feed(int letter) {
        if (!in(letter, 0, 255)) return BAD;
        if (tape.length() == 110) return FULL;
        tape.append((char) letter);
        return tape.length();
    }

    /** Tokens as {first byte, value (a number's; a byte's, negative, else), figures}. */
    private static List<int[]> tokens(String text) {
        List<int[]> all = new ArrayList<>();
        int at = 0;
        while (at < text.length()) {
            int end = at;
            while (end < text.length() && Character.digit(text.charAt(end), 10) >= 0 && text.charAt(end) < 128) end++;
            if (end > at) {
                all.add(new int[] {at, end - at > 2 ? 0 : Integer.parseInt(text.substring(at, end)), end - at});
                at = end;
            } else {
                all.add(new int[] {at, -text.charAt(at) - 1, 0});
                at++;
            }
        }
        all.add(new int[] {text.length(), -1000, 0});
        return all;
    }

    int river() {
        List<int[]> all = tokens(tape.toString());
        tape.setLength(0);
        River r = new River();
        List<Integer> speeds = new ArrayList<>();
        List<Integer> numbers = new ArrayList<>();
        // Each form: letters and signs stand for themselves, 0 for a number.
        String form = "r0,0;";
        int formAt = 0;
        int head = 'r';
        for (int[] token : all) {
            boolean end = token[1] == -1000;
            if (formAt == form.length()) {
                close(r, speeds, head, numbers);
                numbers.clear();
                formAt = 0;
                int letter = -token[1] - 1;
                if (end && speeds.size() >= 4) {
                    r.speeds = speeds.stream().mapToInt(v -> v).toArray();
                    river = r;
                    acts.clear();
                    return r.speeds.length;
                }
                boolean cell = letter == 'c' && r.words.isEmpty();
                boolean word = !end && letter >= 0 && "shfme".indexOf(letter) >= 0 && speeds.size() >= 4;
                if (!cell && !word) return faulty(1, token);
                if (cell && speeds.size() == 12 || word && r.words.size() == 7) return faulty(3, token);
                head = letter;
                form = cell ? "c0;" : (char) letter + "0,0;";
            }
            char due = form.charAt(formAt);
            if (due == '0') {
                if (token[1] < 0 || token[2] > 2) return faulty(1, token);
                int nth = numbers.size();
                int least = nth == 0 && head != 'r' && head != 'c' ? 1 : 0;
                int most = head == 'r' ? (nth == 0 ? 15 : 10) : head == 'c' ? 3 : nth == 0 ? 60 : speeds.size() - 1;
                if (!in(token[1], least, most)) return faulty(2, token);
                numbers.add(token[1]);
            } else if (end || -token[1] - 1 != due) {
                return faulty(1, token);
            }
            formAt++;
        }
        throw new IllegalStateException("a text without an end");
    }

    private static void close(River r, List<Integer> speeds, int head, List<Integer> numbers) {
        if (head == 'r') {
            r.rain = numbers.get(0);
            r.edge = numbers.get(1);
        } else if (head == 'c') {
            speeds.add(numbers.get(0));
        } else {
            Word w = wordOf("?shfme".indexOf(head));
            w.number = r.words.size();
            w.size = numbers.get(0);
            w.cell = numbers.get(1);
            r.words.add(w);
        }
    }

    private int faulty(int number, int[] token) {
        lastFault = number;
        return -1000100 - token[0];
    }

    int fault() {
        return lastFault;
    }

    private void act() {
        acts.addLast(river.fresh());
        if (acts.size() > 24) acts.removeFirst();
    }

    int minutes(int n) {
        if (river == null) return STATE;
        if (!in(n, 1, 24)) return BAD;
        if (river.minute + n > 9999) return FULL;
        for (int i = 0; i < n; i++) {
            act();
            river.pass(river.wet());
        }
        return river.gone();
    }

    private boolean noWord(int word) {
        return river == null || !in(word, 0, river.words.size() - 1);
    }

    private boolean noCell(int cell) {
        return river == null || !in(cell, 0, river.speeds.length - 1);
    }

    int say(int word, int size, int cell) {
        if (noWord(word) || noCell(cell) || !in(size, 1, 60)) return BAD;
        act();
        Word w = river.words.get(word);
        int had = w.size;
        w.size = size;
        w.cell = cell;
        w.gone = false;
        return had;
    }

    int speed(int cell, int v) {
        if (noCell(cell) || !in(v, 0, 3)) return BAD;
        act();
        int was = river.speeds[cell];
        river.speeds[cell] = v;
        return was;
    }

    int rain(int v) {
        if (river == null) return STATE;
        if (!in(v, 0, 15)) return BAD;
        act();
        int was = river.rain;
        river.rain = v;
        return was;
    }

    int undo() {
        if (acts.isEmpty()) return STATE;
        river = acts.removeLast();
        return acts.size();
    }

    int word(int word, int what) {
        if (noWord(word) || !in(what, 0, 3)) return BAD;
        Word w = river.words.get(word);
        return List.of(w.size, w.gone ? NONE : w.cell, w.gone ? 1 : 0, w.cell).get(what);
    }

    int cell(int cell, int what) {
        if (noCell(cell) || !in(what, 0, 2)) return BAD;
        int bits = 0;
        for (Word w : river.words) {
            if (!w.gone && w.cell == cell) bits += 1 << w.number;
        }
        return List.of(river.speeds[cell], river.pace(cell, river.wet()), bits).get(what);
    }

    int ahead(int word, int d, int what) {
        if (noWord(word) || !in(d, 0, 60) || !in(what, 0, 1)) return BAD;
        Word w = river.later(d).words.get(word);
        return what == 1 ? w.size : w.gone ? NONE : w.cell;
    }

    int quarrel(int d) {
        if (river == null) return STATE;
        if (!in(d, 0, 60)) return BAD;
        return river.later(d).quarrel();
    }

    int over(int word) {
        if (noWord(word)) return BAD;
        for (int d = 0; d <= 60; d++) {
            if (river.later(d).words.get(word).gone) return d;
        }
        return NONE;
    }

    int kept() {
        if (river == null) return STATE;
        return (1 << river.words.size()) - 1 - river.later(60).gone();
    }

    int calm(int n, int what) {
        if (river == null) return STATE;
        if (!in(n, 1, 30) || !in(what, 0, 1)) return BAD;
        int[] best = null;
        for (int c = 0; c < river.speeds.length; c++) {
            River r = river.fresh();
            r.speeds[c] = 0;
            int q = r.later(n).quarrel();
            if (best == null || q < best[1]) best = new int[] {c, q};
        }
        return best[what];
    }

    int swift(int n, int what) {
        if (river == null) return STATE;
        if (!in(n, 1, 30) || !in(what, 0, 1)) return BAD;
        int[] best = null;
        for (int bits = 0; bits < 1 << river.speeds.length; bits++) {
            int many = Integer.bitCount(bits);
            if (best != null && many >= best[0]) continue;
            River r = river.fresh();
            for (int c = 0; c < r.speeds.length; c++) {
                if ((bits & 1 << c) != 0) r.speeds[c] = 3;
            }
            for (int i = 0; i < n; i++) {
                r.pass(r.wet());
            }
            if (r.gone() == (1 << r.words.size()) - 1) best = new int[] {many, bits};
        }
        return best == null ? NONE : best[what];
    }

    int stir(int word, int cell, int n) {
        if (noWord(word) || noCell(cell) || !in(n, 1, 30)) return BAD;
        for (int v = 0; v < 4; v++) {
            River r = river.fresh();
            r.speeds[cell] = v;
            if (r.later(n).words.get(word).gone) return v;
        }
        return NONE;
    }

    int share(int word, int n) {
        if (noWord(word) || !in(n, 0, 999)) return BAD;
        int all = river.quarrel();
        if (all == 0) return 0;
        int[] shares = new int[river.words.size()];
        int given = 0;
        for (Word w : river.words) {
            shares[w.number] = n * w.size / all;
            given += shares[w.number];
        }
        for (Word w : river.words) {
            if (given < n && w.size > 0) {
                shares[w.number]++;
                given++;
            }
        }
        if (given != n) throw new IllegalStateException("something is over yet");
        return shares[word];
    }

    private static boolean tells(River start, int word, int[] told) {
        River r = start.fresh();
        for (int item : told) {
            r.pass(r.wet());
            Word w = r.words.get(word);
            if ((w.gone ? 99 : w.cell) != item) return false;
        }
        return true;
    }

    int fits(int word, int row, int i, int n, int what) {
        if (noWord(word) || !in(row, 0, 7) || !in(n, 1, 12) || !in(what, 0, 4)) return BAD;
        Word real = river.words.get(word);
        if (real.gone) return STATE;
        if (rows[row] == null) return found(1);
        if (i < 0 || (long) i + n > rows[row].length) return found(2);
        int[] told = Arrays.copyOfRange(rows[row], i, i + n);
        int bits = 0;
        int least = NONE;
        int from = what == 0 || what > 2 ? 1 : 0;
        int to = what == 0 ? 5 : what == 1 ? river.speeds.length - 1 : what == 2 ? 15 : 60;
        int many = 0;
        for (int v = from; v <= to; v++) {
            River r = river.fresh();
            Word w = what == 0 ? wordOf(v) : real.fresh();
            w.number = word;
            w.size = what > 2 ? v : real.size;
            w.cell = what == 1 ? v : real.cell;
            r.words.set(word, w);
            if (what == 2) r.rain = v;
            if (tells(r, word, told)) {
                many++;
                if (least == NONE) least = v;
                if (what < 3) bits |= 1 << v;
            }
        }
        return good(what == 3 ? many : what == 4 ? least : bits);
    }

    private static BigInteger above(River r, int word, int n, int c) {
        if (n == 0) return r.words.get(word).gone ? BigInteger.ONE : BigInteger.ZERO;
        BigInteger wet = above(r.fresh().pass(true), word, n - 1, c).multiply(BigInteger.valueOf(c));
        BigInteger dry = above(r.fresh().pass(false), word, n - 1, c).multiply(BigInteger.valueOf(10 - c));
        return wet.add(dry);
    }

    int chance(int word, int n, int c, int what) {
        if (noWord(word) || !in(n, 0, 8) || !in(c, 0, 10) || !in(what, 0, 1)) return BAD;
        BigInteger above = above(river, word, n, c);
        BigInteger below = BigInteger.TEN.pow(n);
        BigInteger common = above.gcd(below);
        return (what == 0 ? above : below).divide(common).intValueExact();
    }

    int drawn(int n, int seed, int what) {
        if (river == null) return STATE;
        if (!in(n, 0, 60) || !in(seed, 1, 999999) || !in(what, 0, 1)) return BAD;
        BigInteger x = BigInteger.valueOf(seed);
        River r = river.fresh();
        int anew = 0;
        for (int i = 0; i < n; i++) {
            x = x.multiply(BigInteger.valueOf(16807)).mod(BigInteger.valueOf(2147483647));
            int v = x.intValueExact();
            r.rain = v % 16;
            if (!r.words.isEmpty() && r.words.get(v % r.words.size()).gone) {
                Word w = r.words.get(v % r.words.size());
                w.gone = false;
                w.size = v % 60 + 1;
                w.cell = v % r.speeds.length;
                anew++;
            }
            r.pass(r.wet());
        }
        return what == 0 ? r.quarrel() : anew;
    }

    int image(int k) {
        if (!in(k, 0, 1)) return BAD;
        if (river == null) return STATE;
        images[k] = river.fresh();
        return 1;
    }

    int restore(int k) {
        if (!in(k, 0, 1)) return BAD;
        if (images[k] == null) return STATE;
        river = images[k].fresh();
        acts.clear();
        return 1;
    }

    int kind(int word) {
        return noWord(word) ? BAD : river.words.get(word).kind();
    }

    int as(int word, int kind) {
        if (noWord(word) || !in(kind, 0, 5)) return BAD;
        Class<?> as = List.of(Word.class, Stick.class, Shout.class, Froth.class, Salmon.class, Eel.class).get(kind);
        return as.isInstance(river.words.get(word)) ? good(word) : found(3);
    }

    int ask(int word, int what) {
        if (noWord(word) || !in(what, 0, 1)) return BAD;
        trace = new ArrayList<>();
        Word w = river.words.get(word);
        return what == 0 ? w.askSize(trace) : w.askMark(trace);
    }

    int trace(int i) {
        return in(i, 0, Math.min(16, trace.size()) - 1) ? trace.get(i) : NONE;
    }

    int count(int what) {
        switch (what) {
            case 0: return (int) Arrays.stream(rows).filter(r -> r != null).count();
            case 1: return river == null ? 0 : river.speeds.length;
            case 2: return river == null ? 0 : river.words.size();
            case 3: return river == null ? 0 : river.minute;
            case 4: return river == null ? 0 : river.rain;
            case 5: return river == null ? 0 : river.edge;
            case 6: return river == null ? 0 : river.quarrel();
            case 7: return river == null ? 0 : river.gone();
            case 8: return acts.size();
            case 9: return tape.length();
            default: return BAD;
        }
    }

    int status() {
        return status;
    }
}
