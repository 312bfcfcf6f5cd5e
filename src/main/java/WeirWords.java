import java.util.Arrays;

public final class WeirWords {
    public static final int NONE = -1000000, BAD = -1000001, STATE = -1000002, FULL = -1000003;

    private static final int FINDINGS = -1000010;
    private static final int NULL = 1, PLACE = 2, KIND = 3, SIZE = 4, STORE = 5;
    private static final int FAULTS = -1000100;

    private static final int MOST_FORETOLD = 60;
    private static final int MOST_SEARCHED = 30;
    private static final int MOST_TOLD = 12;
    private static final int MOST_CHANCED = 8;
    private static final int MOST_SEED = 999999;
    private static final int MOST_SHARED = 999;
    private static final int MOST_AT_ONCE = 24;
    private static final int LAST_MINUTE = 9999;
    private static final int ACTS = 24;
    private static final int IMAGES = 2;

    private final Rows rows = new Rows();
    private final Tape tape = new Tape();
    private final Asks asks = new Asks();
    private final River now = new River();
    // What is tried out, so that the river itself stays as it is.
    private final River trial = new River();
    // A ring: the river as it was ahead of each act that can be undone.
    private final River[] before = new River[ACTS];
    private final River[] images = new River[IMAGES];
    private int nextAct = 0;
    private int actsKept = 0;
    private int lastFinding = 0;

    public WeirWords() {
        for (int i = 0; i < ACTS; i++) {
            before[i] = new River();
        }
        for (int i = 0; i < IMAGES; i++) {
            images[i] = new River();
        }
    }

    // ---- rows

    public int row(int row, int lane, int n) {
        if (!Rows.isRow(row) || !Rows.isLane(lane) || n > Rows.ITEMS) {
            return BAD;
        }
        if (n < 0) {
            return finding(SIZE);
        }
        rows.lay(row, lane, n);
        return unfound(n);
    }

    public int set(int row, int i, int v) {
        if (!Rows.isRow(row)) {
            return BAD;
        }
        if (rows.isMissing(row)) {
            return finding(NULL);
        }
        if (!rows.hasPlaces(row, i, 1)) {
            return finding(PLACE);
        }
        return unfound(rows.put(row, i, v));
    }

    public int copy(int a, int i, int b, int j, int n) {
        if (!Rows.isRow(a) || !Rows.isRow(b)) {
            return BAD;
        }
        if (rows.isMissing(a) || rows.isMissing(b)) {
            return finding(NULL);
        }
        if (!rows.haveOneLane(a, b)) {
            return finding(STORE);
        }
        if (!rows.hasPlaces(a, i, n) || !rows.hasPlaces(b, j, n)) {
            return finding(PLACE);
        }
        rows.carry(a, i, b, j, n);
        return unfound(n);
    }

    public int drop(int row) {
        if (!Rows.isRow(row)) {
            return BAD;
        }
        if (rows.isMissing(row)) {
            return finding(NULL);
        }
        return unfound(rows.lose(row));
    }

    // ---- rivers, acts

    public int feed(int letter) {
        if (!isWithin(letter, 0, 255)) {
            return BAD;
        }
        if (tape.isFull()) {
            return FULL;
        }
        return tape.take(letter);
    }

    public int river() {
        boolean good = tape.readInto(trial);
        tape.wipe();
        if (!good) {
            return FAULTS - tape.at;
        }
        now.become(trial);
        forgetActs();
        return now.cells;
    }

    public int fault() {
        return tape.latestFault;
    }

    public int minutes(int n) {
        if (!hasRiver()) {
            return STATE;
        }
        if (!isWithin(n, 1, MOST_AT_ONCE)) {
            return BAD;
        }
        if (now.minute + n > LAST_MINUTE) {
            return FULL;
        }
        for (int i = 0; i < n; i++) {
            keepAct();
            now.passMinute();
        }
        return now.goneBits();
    }

    public int say(int word, int size, int cell) {
        if (!now.hasWord(word) || !isWithin(size, 1, River.MOST_SIZE) || !now.hasCell(cell)) {
            return BAD;
        }
        int had = now.sizeOf(word);
        keepAct();
        now.said[word] = River.packed(size, cell);
        return had;
    }

    public int speed(int cell, int v) {
        if (!now.hasCell(cell) || !isWithin(v, 0, River.MOST_SPEED)) {
            return BAD;
        }
        int was = now.speeds[cell];
        keepAct();
        now.speeds[cell] = v;
        return was;
    }

    public int rain(int v) {
        if (!hasRiver()) {
            return STATE;
        }
        if (!isWithin(v, 0, River.MOST_RAIN)) {
            return BAD;
        }
        int was = now.rainBits;
        keepAct();
        now.rainBits = v;
        return was;
    }

    public int undo() {
        if (actsKept == 0) {
            return STATE;
        }
        nextAct = (nextAct + ACTS - 1) % ACTS;
        actsKept--;
        now.become(before[nextAct]);
        return actsKept;
    }

    public int word(int word, int what) {
        if (!now.hasWord(word)) {
            return BAD;
        }
        int said = now.said[word];
        switch (what) {
            case 0:
                return River.sizeIn(said);
            case 1:
                return cellOrNone(said);
            case 2:
                return River.isGone(said) ? 1 : 0;
            case 3:
                return River.cellIn(said);
            default:
                return BAD;
        }
    }

    public int cell(int cell, int what) {
        if (!now.hasCell(cell)) {
            return BAD;
        }
        switch (what) {
            case 0:
                return now.speeds[cell];
            case 1:
                return now.paceOf(cell, now.isWet(now.minute));
            case 2:
                return now.wordsIn(cell);
            default:
                return BAD;
        }
    }

    // ---- foretold

    public int ahead(int word, int d, int what) {
        if (!now.hasWord(word) || !isWithin(d, 0, MOST_FORETOLD) || !isWithin(what, 0, 1)) {
            return BAD;
        }
        int said = now.foretold(word, d);
        return what == 0 ? cellOrNone(said) : River.sizeIn(said);
    }

    public int quarrel(int d) {
        if (!hasRiver()) {
            return STATE;
        }
        if (!isWithin(d, 0, MOST_FORETOLD)) {
            return BAD;
        }
        return now.quarrelBehind(d);
    }

    public int over(int word) {
        if (!now.hasWord(word)) {
            return BAD;
        }
        return now.goneBehind(word, MOST_FORETOLD);
    }

    public int kept() {
        if (!hasRiver()) {
            return STATE;
        }
        int bits = 0;
        for (int word = 0; word < now.words; word++) {
            if (!River.isGone(now.foretold(word, MOST_FORETOLD))) {
                bits |= 1 << word;
            }
        }
        return bits;
    }

    public int calm(int n, int what) {
        if (!hasRiver()) {
            return STATE;
        }
        if (!isWithin(n, 1, MOST_SEARCHED) || !isWithin(what, 0, 1)) {
            return BAD;
        }
        trial.become(now);
        int which = 0;
        int least = 0;
        for (int cell = 0; cell < now.cells; cell++) {
            trial.speeds[cell] = 0;
            int much = trial.quarrelBehind(n);
            trial.speeds[cell] = now.speeds[cell];
            if (cell == 0 || much < least) {
                least = much;
                which = cell;
            }
        }
        return what == 0 ? which : least;
    }

    public int swift(int n, int what) {
        if (!hasRiver()) {
            return STATE;
        }
        if (!isWithin(n, 1, MOST_SEARCHED) || !isWithin(what, 0, 1)) {
            return BAD;
        }
        int bits = fewestSwift(n);
        if (bits == NONE) {
            return NONE;
        }
        return what == 0 ? Integer.bitCount(bits) : bits;
    }

    public int stir(int word, int cell, int n) {
        if (!now.hasWord(word) || !now.hasCell(cell) || !isWithin(n, 1, MOST_SEARCHED)) {
            return BAD;
        }
        trial.become(now);
        for (int v = 0; v <= River.MOST_SPEED; v++) {
            trial.speeds[cell] = v;
            if (River.isGone(trial.foretold(word, n))) {
                return v;
            }
        }
        return NONE;
    }

    public int share(int word, int n) {
        if (!now.hasWord(word) || !isWithin(n, 0, MOST_SHARED)) {
            return BAD;
        }
        int all = now.quarrelBehind(0);
        if (all == 0 || now.sizeOf(word) == 0) {
            return 0;
        }
        int rest = n;
        int sharersAbove = 0;
        for (int other = 0; other < now.words; other++) {
            rest -= n * now.sizeOf(other) / all;
            if (other < word && now.sizeOf(other) > 0) {
                sharersAbove++;
            }
        }
        return n * now.sizeOf(word) / all + (sharersAbove < rest ? 1 : 0);
    }

    public int fits(int word, int row, int i, int n, int what) {
        if (!now.hasWord(word) || !Rows.isRow(row)
                || !isWithin(n, 1, MOST_TOLD) || !isWithin(what, 0, 4)) {
            return BAD;
        }
        if (now.sizeOf(word) == 0) {
            return STATE;
        }
        if (rows.isMissing(row)) {
            return finding(NULL);
        }
        if (!rows.hasPlaces(row, i, n)) {
            return finding(PLACE);
        }
        int[] told = rows.items[row];
        switch (what) {
            case 0:
                return unfound(fittingSorts(word, told, i, n));
            case 1:
                return unfound(fittingStarts(word, told, i, n));
            case 2:
                return unfound(fittingRains(word, told, i, n));
            case 3:
                return unfound(fittingSizes(word, told, i, n));
            default:
                return unfound(leastFittingSize(word, told, i, n));
        }
    }

    public int chance(int word, int n, int c, int what) {
        if (!now.hasWord(word) || !isWithin(n, 0, MOST_CHANCED)
                || !isWithin(c, 0, 10) || !isWithin(what, 0, 1)) {
            return BAD;
        }
        int above = 0;
        for (int wetBits = 0; wetBits < 1 << n; wetBits++) {
            if (River.isGone(now.foretoldIn(word, n, wetBits))) {
                int wet = Integer.bitCount(wetBits);
                above += power(c, wet) * power(10 - c, n - wet);
            }
        }
        int below = power(10, n);
        int common = commonDivisor(above, below);
        return (what == 0 ? above : below) / common;
    }

    public int drawn(int n, int seed, int what) {
        if (!hasRiver()) {
            return STATE;
        }
        if (!isWithin(n, 0, MOST_FORETOLD) || !isWithin(seed, 1, MOST_SEED)
                || !isWithin(what, 0, 1)) {
            return BAD;
        }
        trial.become(now);
        long x = seed;
        int anew = 0;
        for (int i = 0; i < n; i++) {
            x = x * 16807L % 2147483647L;
            trial.rainBits = (int) (x % 16);
            if (trial.sayDrawn((int) x)) {
                anew++;
            }
            trial.passMinute();
        }
        return what == 0 ? trial.quarrelBehind(0) : anew;
    }

    public int image(int k) {
        if (!isWithin(k, 0, IMAGES - 1)) {
            return BAD;
        }
        if (!hasRiver()) {
            return STATE;
        }
        images[k].become(now);
        return 1;
    }

    public int restore(int k) {
        if (!isWithin(k, 0, IMAGES - 1)) {
            return BAD;
        }
        if (images[k].cells == 0) {
            return STATE;
        }
        now.become(images[k]);
        forgetActs();
        return 1;
    }

    // ---- asked

    public int kind(int word) {
        return now.hasWord(word) ? now.kinds[word] : BAD;
    }

    public int as(int word, int kind) {
        if (!now.hasWord(word) || !isWithin(kind, Kinds.WORD, Kinds.EEL)) {
            return BAD;
        }
        if (!Kinds.isOne(now.kinds[word], kind)) {
            return finding(KIND);
        }
        return unfound(word);
    }

    public int ask(int word, int what) {
        if (!now.hasWord(word) || !isWithin(what, 0, 1)) {
            return BAD;
        }
        asks.begin(now, word);
        return what == 0 ? asks.askSize() : asks.askMark();
    }

    public int trace(int i) {
        return asks.hasLeft(i) ? asks.trail[i] : NONE;
    }

    public int count(int what) {
        switch (what) {
            case 0:
                return rows.present();
            case 1:
                return now.cells;
            case 2:
                return now.words;
            case 3:
                return now.minute;
            case 4:
                return now.rainBits;
            case 5:
                return now.edge;
            case 6:
                return now.quarrelBehind(0);
            case 7:
                return now.goneBits();
            case 8:
                return actsKept;
            case 9:
                return tape.length;
            default:
                return BAD;
        }
    }

    public int status() {
        return lastFinding;
    }

    // ---- what the calls share

    private static boolean isWithin(int v, int least, int most) {
        return least <= v && v <= most;
    }

    private int finding(int number) {
        lastFinding = number;
        return FINDINGS - number;
    }

    private int unfound(int answer) {
        lastFinding = 0;
        return answer;
    }

    private boolean hasRiver() {
        return now.cells > 0;
    }

    private static int cellOrNone(int said) {
        return River.isGone(said) ? NONE : River.cellIn(said);
    }

    private void keepAct() {
        before[nextAct].become(now);
        nextAct = (nextAct + 1) % ACTS;
        actsKept = Math.min(actsKept + 1, ACTS);
    }

    private void forgetActs() {
        nextAct = 0;
        actsKept = 0;
    }

    private int fewestSwift(int n) {
        // Without this the search would try every set of cells for nothing.
        if (now.hasClimber()) {
            return NONE;
        }
        trial.become(now);
        for (int many = 0; many <= now.cells; many++) {
            for (int bits = 0; bits < 1 << now.cells; bits++) {
                if (Integer.bitCount(bits) != many) {
                    continue;
                }
                trial.takeSpeeds(now, bits);
                if (trial.isAllGoneBehind(n)) {
                    return bits;
                }
            }
        }
        return NONE;
    }

    private int fittingSorts(int word, int[] told, int from, int n) {
        int bits = 0;
        for (int kind = Kinds.STICK; kind <= Kinds.EEL; kind++) {
            if (now.goesAsTold(kind, now.said[word], told, from, n)) {
                bits |= 1 << kind;
            }
        }
        return bits;
    }

    private int fittingStarts(int word, int[] told, int from, int n) {
        int bits = 0;
        for (int cell = 0; cell < now.cells; cell++) {
            int said = River.packed(now.sizeOf(word), cell);
            if (now.goesAsTold(now.kinds[word], said, told, from, n)) {
                bits |= 1 << cell;
            }
        }
        return bits;
    }

    private int fittingRains(int word, int[] told, int from, int n) {
        trial.become(now);
        int bits = 0;
        for (int v = 0; v <= River.MOST_RAIN; v++) {
            trial.rainBits = v;
            if (trial.goesAsTold(trial.kinds[word], trial.said[word], told, from, n)) {
                bits |= 1 << v;
            }
        }
        return bits;
    }

    private int fittingSizes(int word, int[] told, int from, int n) {
        int many = 0;
        for (int size = 1; size <= River.MOST_SIZE; size++) {
            if (fitsSize(word, size, told, from, n)) {
                many++;
            }
        }
        return many;
    }

    private int leastFittingSize(int word, int[] told, int from, int n) {
        for (int size = 1; size <= River.MOST_SIZE; size++) {
            if (fitsSize(word, size, told, from, n)) {
                return size;
            }
        }
        return NONE;
    }

    private boolean fitsSize(int word, int size, int[] told, int from, int n) {
        int said = River.packed(size, River.cellIn(now.said[word]));
        return now.goesAsTold(now.kinds[word], said, told, from, n);
    }

    private static int power(int base, int times) {
        int product = 1;
        for (int i = 0; i < times; i++) {
            product *= base;
        }
        return product;
    }

    // Two ints need no more than 46 divisions.
    private static int commonDivisor(int a, int b) {
        int rest = a;
        int divisor = b;
        for (int i = 0; i < 100 && rest != 0; i++) {
            int next = divisor % rest;
            divisor = rest;
            rest = next;
        }
        return Math.max(1, divisor);
    }

    static final class Rows {
        static final int ROWS = 8, ITEMS = 40, BYTES = 0, SHORTS = 1, INTS = 2;
        static final int MISSING = -1;

        final int[][] items = new int[ROWS][ITEMS];
        final int[] lanes = new int[ROWS];
        final int[] lengths = new int[ROWS];

        Rows() {
            Arrays.fill(lengths, MISSING);
        }

        static boolean isRow(int row) {
            return row >= 0 && row < ROWS;
        }

        static boolean isLane(int lane) {
            return lane >= BYTES && lane <= INTS;
        }

        boolean isMissing(int row) {
            return lengths[row] == MISSING;
        }

        boolean haveOneLane(int a, int b) {
            return lanes[a] == lanes[b];
        }

        boolean hasPlaces(int row, int i, int n) {
            return n >= 0 && i >= 0 && i <= lengths[row] - n;
        }

        void lay(int row, int lane, int n) {
            lanes[row] = lane;
            lengths[row] = n;
            Arrays.fill(items[row], 0);
        }

        int put(int row, int i, int v) {
            int kept = v;
            if (lanes[row] == BYTES) {
                kept = (byte) v;
            } else if (lanes[row] == SHORTS) {
                kept = (short) v;
            }
            items[row][i] = kept;
            return kept;
        }

        void carry(int a, int i, int b, int j, int n) {
            System.arraycopy(items[a], i, items[b], j, n);
        }

        int lose(int row) {
            int had = lengths[row];
            lengths[row] = MISSING;
            return had;
        }

        int present() {
            int many = 0;
            for (int row = 0; row < ROWS; row++) {
                if (!isMissing(row)) {
                    many++;
                }
            }
            return many;
        }
    }

    static final class Kinds {
        static final int WORD = 0, STICK = 1, SHOUT = 2, FROTH = 3, SALMON = 4, EEL = 5;
        static final int UNKNOWN = -1;

        static boolean isOne(int kind, int of) {
            switch (of) {
                case WORD:
                    return true;
                case STICK:
                    return kind == STICK || kind == SHOUT || kind == FROTH;
                case SALMON:
                    return kind == SALMON || kind == EEL;
                default:
                    return kind == of;
            }
        }

        static int byLetter(int letter) {
            switch (letter) {
                case 's':
                    return STICK;
                case 'h':
                    return SHOUT;
                case 'f':
                    return FROTH;
                case 'm':
                    return SALMON;
                case 'e':
                    return EEL;
                default:
                    return UNKNOWN;
            }
        }
    }

    static final class Tape {
        static final int BYTES = 110;
        static final int MISPLACED = 1, MISTOLD = 2, NO_ROOM = 3;
        static final int FAULTY = -1;

        final int[] bytes = new int[BYTES];
        int length = 0;
        // The first byte of the token that is read next; of the one with the fault, at last.
        int at = 0;
        int latestFault = 0;

        boolean isFull() {
            return length >= BYTES;
        }

        int take(int letter) {
            bytes[length] = letter;
            length++;
            return length;
        }

        void wipe() {
            length = 0;
        }

        boolean readInto(River river) {
            at = 0;
            river.empty();
            return readLaw(river) && readCells(river) && readWords(river);
        }

        private boolean readLaw(River river) {
            if (!passes('r')) {
                return false;
            }
            river.rainBits = readNumber(0, River.MOST_RAIN);
            if (river.rainBits == FAULTY || !passes(',')) {
                return false;
            }
            river.edge = readNumber(0, River.MOST_EDGE);
            return river.edge != FAULTY && passes(';');
        }

        private boolean readCells(River river) {
            for (int i = 0; i < River.MOST_CELLS && (i < River.FEWEST_CELLS || isAt('c')); i++) {
                if (!readCell(river)) {
                    return false;
                }
            }
            return !isAt('c') || faulty(NO_ROOM);
        }

        private boolean readCell(River river) {
            if (!passes('c')) {
                return false;
            }
            int v = readNumber(0, River.MOST_SPEED);
            if (v == FAULTY || !passes(';')) {
                return false;
            }
            river.speeds[river.cells] = v;
            river.cells++;
            return true;
        }

        private boolean readWords(River river) {
            for (int i = 0; i < River.MOST_WORDS && at < length; i++) {
                if (!readWord(river)) {
                    return false;
                }
            }
            if (at >= length) {
                return true;
            }
            return faulty(Kinds.byLetter(bytes[at]) == Kinds.UNKNOWN ? MISPLACED : NO_ROOM);
        }

        private boolean readWord(River river) {
            int kind = Kinds.byLetter(bytes[at]);
            if (kind == Kinds.UNKNOWN) {
                return faulty(MISPLACED);
            }
            at++;
            int size = readNumber(1, River.MOST_SIZE);
            if (size == FAULTY || !passes(',')) {
                return false;
            }
            int cell = readNumber(0, river.cells - 1);
            if (cell == FAULTY || !passes(';')) {
                return false;
            }
            river.kinds[river.words] = kind;
            river.said[river.words] = River.packed(size, cell);
            river.words++;
            return true;
        }

        private boolean isAt(char letter) {
            return at < length && bytes[at] == letter;
        }

        private boolean passes(char letter) {
            if (!isAt(letter)) {
                return faulty(MISPLACED);
            }
            at++;
            return true;
        }

        private boolean faulty(int number) {
            latestFault = number;
            return false;
        }

        private int readNumber(int least, int most) {
            int figures = figuresFrom(at);
            if (figures < 1 || figures > 2) {
                faulty(MISPLACED);
                return FAULTY;
            }
            int value = 0;
            for (int i = 0; i < figures; i++) {
                value = value * 10 + bytes[at + i] - '0';
            }
            if (value < least || value > most) {
                faulty(MISTOLD);
                return FAULTY;
            }
            at += figures;
            return value;
        }

        private int figuresFrom(int start) {
            int end = start;
            while (end < length && bytes[end] >= '0' && bytes[end] <= '9') {
                end++;
            }
            return end - start;
        }
    }

    static final class River {
        static final int FEWEST_CELLS = 4, MOST_CELLS = 12, MOST_WORDS = 7;
        static final int MOST_SPEED = 3, MOST_RAIN = 15, MOST_EDGE = 10, MOST_SIZE = 60;
        static final int RAIN_TURNS = 4;
        static final int CLIMBED_PACE = 2, CLIMBING_SIZE = 20;
        static final int TOLD_GONE = 99;

        // No cells: there is no river.
        int cells = 0;
        int words = 0;
        int edge = 0;
        int rainBits = 0;
        int minute = 0;
        final int[] speeds = new int[MOST_CELLS];
        final int[] kinds = new int[MOST_WORDS];
        // Size and cell of each word in one number, as what a minute makes of a word is both.
        final int[] said = new int[MOST_WORDS];

        static int packed(int size, int cell) {
            return size << 4 | cell;
        }

        static int sizeIn(int said) {
            return said >> 4;
        }

        static int cellIn(int said) {
            return said & 15;
        }

        static boolean isGone(int said) {
            return sizeIn(said) == 0;
        }

        void empty() {
            cells = 0;
            words = 0;
            edge = 0;
            rainBits = 0;
            minute = 0;
        }

        void become(River other) {
            cells = other.cells;
            words = other.words;
            edge = other.edge;
            rainBits = other.rainBits;
            minute = other.minute;
            System.arraycopy(other.speeds, 0, speeds, 0, MOST_CELLS);
            System.arraycopy(other.kinds, 0, kinds, 0, MOST_WORDS);
            System.arraycopy(other.said, 0, said, 0, MOST_WORDS);
        }

        // The speeds of another, but the swiftest where swiftBits say so.
        void takeSpeeds(River other, int swiftBits) {
            for (int cell = 0; cell < cells; cell++) {
                boolean swift = (swiftBits >> cell & 1) == 1;
                speeds[cell] = swift ? MOST_SPEED : other.speeds[cell];
            }
        }

        boolean hasCell(int cell) {
            return cell >= 0 && cell < cells;
        }

        boolean hasWord(int word) {
            return word >= 0 && word < words;
        }

        int sizeOf(int word) {
            return sizeIn(said[word]);
        }

        int goneBits() {
            int bits = 0;
            for (int word = 0; word < words; word++) {
                if (isGone(said[word])) {
                    bits |= 1 << word;
                }
            }
            return bits;
        }

        int wordsIn(int cell) {
            int bits = 0;
            for (int word = 0; word < words; word++) {
                if (!isGone(said[word]) && cellIn(said[word]) == cell) {
                    bits |= 1 << word;
                }
            }
            return bits;
        }

        // A salmon or an eel never goes down and never shrinks: no speeds make it gone.
        boolean hasClimber() {
            for (int word = 0; word < words; word++) {
                if (!isGone(said[word]) && Kinds.isOne(kinds[word], Kinds.SALMON)) {
                    return true;
                }
            }
            return false;
        }

        boolean isWet(int atMinute) {
            return (rainBits >> atMinute % RAIN_TURNS & 1) == 1;
        }

        int paceOf(int cell, boolean wet) {
            if (cell < 0 || cell >= cells || speeds[cell] == 0) {
                return 0;
            }
            return wet ? speeds[cell] + 1 : speeds[cell];
        }

        void passMinute() {
            boolean wet = isWet(minute);
            for (int word = 0; word < words; word++) {
                said[word] = moved(kinds[word], said[word], minute, wet);
            }
            minute++;
        }

        // What a minute makes of a word: by itself, so that one can be followed alone.
        int moved(int kind, int saidBefore, int atMinute, boolean wet) {
            if (isGone(saidBefore)) {
                return saidBefore;
            }
            if (Kinds.isOne(kind, Kinds.SALMON)) {
                int steps = kind == Kinds.EEL && atMinute % 2 == 0 ? 2 : 1;
                return climbed(saidBefore, steps, wet);
            }
            return drifted(kind, saidBefore, wet);
        }

        private int drifted(int kind, int saidBefore, boolean wet) {
            int size = sizeIn(saidBefore);
            int from = cellIn(saidBefore);
            int pace = paceOf(from, wet);
            int to = from + (kind == Kinds.FROTH && pace > 1 ? pace - 1 : pace);
            if (to >= cells) {
                return packed(0, from);
            }
            if (from <= edge && to > edge) {
                size /= 2;
            }
            if (kind == Kinds.SHOUT && size > 0) {
                size--;
            }
            return packed(size, to);
        }

        private int climbed(int saidBefore, int steps, boolean wet) {
            int size = sizeIn(saidBefore);
            int cell = cellIn(saidBefore);
            for (int i = 0; i < steps; i++) {
                boolean heldByEdge = cell == edge + 1 && size < CLIMBING_SIZE;
                if (cell > 0 && !heldByEdge && paceOf(cell, wet) <= CLIMBED_PACE) {
                    cell--;
                }
            }
            return packed(size, cell);
        }

        int foretold(int word, int n) {
            int later = said[word];
            for (int i = 0; i < n && !isGone(later); i++) {
                later = moved(kinds[word], later, minute + i, isWet(minute + i));
            }
            return later;
        }

        // Bit i of wetBits: whether minute i from now on has rain.
        int foretoldIn(int word, int n, int wetBits) {
            int later = said[word];
            for (int i = 0; i < n; i++) {
                later = moved(kinds[word], later, minute + i, (wetBits >> i & 1) == 1);
            }
            return later;
        }

        int goneBehind(int word, int most) {
            int later = said[word];
            for (int i = 0; i <= most; i++) {
                if (isGone(later)) {
                    return i;
                }
                later = moved(kinds[word], later, minute + i, isWet(minute + i));
            }
            return NONE;
        }

        int quarrelBehind(int n) {
            int all = 0;
            for (int word = 0; word < words; word++) {
                all += sizeIn(foretold(word, n));
            }
            return all;
        }

        boolean isAllGoneBehind(int n) {
            for (int word = 0; word < words; word++) {
                if (!isGone(foretold(word, n))) {
                    return false;
                }
            }
            return true;
        }

        boolean goesAsTold(int kind, int saidNow, int[] told, int from, int n) {
            int later = saidNow;
            for (int i = 0; i < n; i++) {
                later = moved(kind, later, minute + i, isWet(minute + i));
                if (told[from + i] != (isGone(later) ? TOLD_GONE : cellIn(later))) {
                    return false;
                }
            }
            return true;
        }

        boolean sayDrawn(int x) {
            if (words == 0 || cells == 0) {
                return false;
            }
            int word = x % words;
            if (!isGone(said[word])) {
                return false;
            }
            said[word] = packed(1 + x % MOST_SIZE, x % cells);
            return true;
        }
    }

    // The bodies by which a word is asked; one leaves its number in the trail as it begins.
    static final class Asks {
        static final int MOST_LEFT = 16;

        final int[] trail = new int[MOST_LEFT];
        private int length = 0;
        private int word = 0;
        private int kind = Kinds.WORD;
        private int size = 0;
        private int cell = 0;

        void begin(River river, int asked) {
            length = 0;
            word = asked;
            kind = river.kinds[asked];
            size = River.sizeIn(river.said[asked]);
            cell = River.cellIn(river.said[asked]);
        }

        boolean hasLeft(int i) {
            return i >= 0 && i < length;
        }

        int askSize() {
            switch (kind) {
                case Kinds.STICK:
                case Kinds.FROTH:
                    return stickSize();
                case Kinds.SHOUT:
                    leave(12);
                    return 0 - stickSize();
                case Kinds.SALMON:
                case Kinds.EEL:
                    return salmonOrEelSize();
                default:
                    return lentSize();
            }
        }

        int askMark() {
            switch (kind) {
                case Kinds.STICK:
                case Kinds.SHOUT:
                case Kinds.FROTH:
                    return anyStickMark();
                case Kinds.SALMON:
                case Kinds.EEL:
                    return salmonMark();
                default:
                    return lentMark();
            }
        }

        // The same word asked anew, by body 11: it is a stick, a shout or froth.
        private int anyStickMark() {
            switch (kind) {
                case Kinds.SHOUT:
                    leave(24);
                    return 2 * stickMark();
                case Kinds.FROTH:
                    leave(22);
                    return stickMark() - 1000;
                default:
                    return stickMark();
            }
        }

        // The same word asked anew, by body 23: it is a salmon or an eel.
        private int salmonOrEelSize() {
            if (kind == Kinds.EEL) {
                leave(14);
                return 2 * salmonSize();
            }
            return salmonSize();
        }

        private int stickSize() {
            leave(11);
            int lent = lentSize();
            return lent + anyStickMark();
        }

        private int salmonSize() {
            leave(13);
            return lentSize() - 100;
        }

        private int lentSize() {
            leave(10);
            return size;
        }

        private int stickMark() {
            leave(21);
            return lentMark() + cell;
        }

        private int salmonMark() {
            leave(23);
            int lent = lentMark();
            return lent - salmonOrEelSize();
        }

        private int lentMark() {
            leave(20);
            return word;
        }

        private void leave(int body) {
            if (length < MOST_LEFT) {
                trail[length] = body;
                length++;
            }
        }
    }
}
