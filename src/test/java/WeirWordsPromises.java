/** Each promise of the document: ordinary calls, the edges that it names, wrong calls. */
public final class WeirWordsPromises {
    private static final int NONE = -1000000, BAD = -1000001, STATE = -1000002, FULL = -1000003;
    private static final int NULL = -1000011, PLACE = -1000012, KIND = -1000013, SIZE = -1000014, STORE = -1000015;
    private static final int LEAST = Integer.MIN_VALUE, MOST = Integer.MAX_VALUE;

    /** Minute 0 has rain, 1 has none, 2 has, 3 has none; below cell 2 all is halved. */
    private static final String MIXED = "r5,2;c1;c2;c1;c0;c3;c1;s40,0;h9,1;f30,0;m25,5;e12,4;";
    /** Still water: a stick's start is what a row of one item tells. */
    private static final String STILL = "r0,10;c0;c0;c0;c0;c0;c0;c0;c0;c0;c0;c0;c0;s9,0;";

    private static int passed = 0;
    private static int failed = 0;
    private static String promise = "";

    private static void is(String call, int got, int want) {
        if (got == want) {
            passed++;
        } else {
            failed++;
            System.out.println(promise + ": " + call + " answered " + got + ", due is " + want);
        }
    }

    private static void areBad(int... answers) {
        for (int i = 0; i < answers.length; i++) {
            is("wrong call " + i, answers[i], BAD);
        }
    }

    private static int read(WeirWords x, String text) {
        for (int i = 0; i < text.length(); i++) {
            x.feed(text.charAt(i));
        }
        return x.river();
    }

    private static WeirWords with(String text) {
        WeirWords x = new WeirWords();
        int cells = read(x, text);
        if (cells < 4) {
            is("river() of " + text, cells, 4);
        }
        return x;
    }

    /** Item i of a row, 0 to 11, by the still water. */
    private static int item(WeirWords still, int row, int i) {
        int bits = still.fits(0, row, i, 1, 1);
        return bits > 0 ? Integer.numberOfTrailingZeros(bits) : -1;
    }

    private static void fill(WeirWords x, int row, int... items) {
        x.row(row, 2, items.length);
        for (int i = 0; i < items.length; i++) {
            x.set(row, i, items[i]);
        }
    }

    public static void main(String[] args) {
        promise = "1"; aNewObject();
        promise = "2"; row();
        promise = "3"; set();
        promise = "4"; copy();
        promise = "5"; drop();
        promise = "6"; feed();
        promise = "7"; river();
        promise = "8"; fault();
        promise = "9"; minutes();
        promise = "10"; say();
        promise = "11"; speed();
        promise = "12"; rain();
        promise = "13"; undo();
        promise = "14"; word();
        promise = "15"; cell();
        promise = "16"; ahead();
        promise = "17"; quarrel();
        promise = "18"; over();
        promise = "19"; kept();
        promise = "20"; calm();
        promise = "21"; swift();
        promise = "22"; stir();
        promise = "23"; share();
        promise = "24"; fits();
        promise = "25"; chance();
        promise = "26"; drawn();
        promise = "27, 28"; imagesAndRestore();
        promise = "29"; kind();
        promise = "30"; as();
        promise = "31, 32"; askAndTrace();
        promise = "33"; count();
        promise = "34"; status();
        promise = "any"; extremes();
        System.out.println(passed + " passed, " + failed + " failed");
        if (failed != 0) System.exit(1);
    }

    private static void aNewObject() {
        WeirWords x = new WeirWords();
        for (int what = 0; what <= 9; what++) {
            is("count(" + what + ")", x.count(what), 0);
        }
        is("minutes(1)", x.minutes(1), STATE);
        is("kept()", x.kept(), STATE);
        is("kind(0)", x.kind(0), BAD);
        is("fault()", x.fault(), 0);
        is("status()", x.status(), 0);
        is("trace(0)", x.trace(0), NONE);
        is("undo()", x.undo(), STATE);
        is("restore(0)", x.restore(0), STATE);
        is("restore(1)", x.restore(1), STATE);
        is("drop(7)", x.drop(7), NULL);
    }

    private static void row() {
        WeirWords x = with(STILL);
        is("row(0, 0, 0)", x.row(0, 0, 0), 0);
        is("row(7, 2, 40)", x.row(7, 2, 40), 40);
        is("row(3, 1, 5)", x.row(3, 1, 5), 5);
        is("count(0)", x.count(0), 3);
        is("a row of none has no place", x.set(0, 0, 1), PLACE);
        is("the last place", x.set(7, 39, 1), 1);
        x.set(3, 0, 7);
        is("item", item(x, 3, 0), 7);
        is("row(3, 2, -1)", x.row(3, 2, -1), SIZE);
        is("what is found changes nothing", item(x, 3, 0), 7);
        is("the lane stays", x.set(3, 1, 40000), -25536);
        is("row(3, 2, least)", x.row(3, 2, LEAST), SIZE);
        is("row(3, 0, 2) anew", x.row(3, 0, 2), 2);
        is("items are 0 at first", item(x, 3, 0), 0);
        is("the lane is another", x.set(3, 0, 128), -128);
        is("the length is another", x.set(3, 2, 0), PLACE);
        areBad(x.row(-1, 0, 1), x.row(8, 0, 1), x.row(0, -1, 1), x.row(0, 3, 1), x.row(0, 0, 41),
            x.row(0, 0, MOST), x.row(8, 0, -1), x.row(0, 3, -1), x.row(0, -1, -1));
        is("count(0)", x.count(0), 3);
    }

    private static void set() {
        WeirWords x = with(STILL);
        x.row(0, 0, 2);
        x.row(1, 1, 2);
        x.row(2, 2, 2);
        is("a byte", x.set(0, 0, 127), 127);
        is("a byte", x.set(0, 0, 128), -128);
        is("a byte", x.set(0, 0, 255), -1);
        is("a byte", x.set(0, 0, 256 + 5), 5);
        is("is then", item(x, 0, 0), 5);
        is("a byte", x.set(0, 1, -129), 127);
        is("a short", x.set(1, 0, 32767), 32767);
        is("a short", x.set(1, 0, 32768), -32768);
        is("a short", x.set(1, 1, 65536 * 9 + 11), 11);
        is("is then", item(x, 1, 1), 11);
        is("a short", x.set(1, 1, -32769), 32767);
        is("an int", x.set(2, 0, MOST), MOST);
        is("an int", x.set(2, 1, LEAST), LEAST);
        is("set(0, 2, 0)", x.set(0, 2, 0), PLACE);
        is("set(0, -1, 0)", x.set(0, -1, 0), PLACE);
        is("set(0, most, 0)", x.set(0, MOST, 0), PLACE);
        is("set(0, least, 0)", x.set(0, LEAST, 0), PLACE);
        is("set(3, 9, 0)", x.set(3, 9, 0), NULL);
        areBad(x.set(-1, 0, 0), x.set(8, 0, 0));
    }

    private static void copy() {
        WeirWords x = with(STILL);
        fill(x, 0, 1, 2, 3, 4, 5);
        fill(x, 1, 9, 9, 9);
        x.row(2, 1, 5);
        is("copy(0, 1, 1, 0, 2)", x.copy(0, 1, 1, 0, 2), 2);
        is("item", item(x, 1, 0), 2);
        is("item", item(x, 1, 1), 3);
        is("item", item(x, 1, 2), 9);
        is("up within one", x.copy(0, 0, 0, 1, 4), 4);
        int[] up = {1, 1, 2, 3, 4};
        for (int i = 0; i < 5; i++) {
            is("as they were ahead, " + i, item(x, 0, i), up[i]);
        }
        is("down within one", x.copy(0, 1, 0, 0, 4), 4);
        int[] down = {1, 2, 3, 4, 4};
        for (int i = 0; i < 5; i++) {
            is("as they were ahead, " + i, item(x, 0, i), down[i]);
        }
        is("none, at the ends", x.copy(0, 5, 1, 3, 0), 0);
        is("none, beyond an end", x.copy(0, 6, 1, 3, 0), PLACE);
        is("none, beyond an end", x.copy(0, 5, 1, 4, 0), PLACE);
        is("i below 0", x.copy(0, -1, 1, 0, 1), PLACE);
        is("j below 0", x.copy(0, 0, 1, -1, 1), PLACE);
        is("n below 0", x.copy(0, 0, 1, 0, -1), PLACE);
        is("beyond a's end", x.copy(1, 2, 0, 0, 2), PLACE);
        is("beyond b's end", x.copy(0, 0, 1, 2, 2), PLACE);
        is("far beyond", x.copy(0, MOST, 1, 0, MOST), PLACE);
        is("far beyond", x.copy(0, 1, 1, 1, MOST), PLACE);
        is("far below", x.copy(0, LEAST, 1, LEAST, LEAST), PLACE);
        is("two lanes", x.copy(0, 0, 2, 0, 1), STORE);
        is("two lanes ahead of the place", x.copy(0, -1, 2, 0, 1), STORE);
        is("missing ahead of the place", x.copy(3, -1, 0, 0, 1), NULL);
        is("b missing", x.copy(2, 0, 3, 0, 1), NULL);
        is("what is found changes nothing", item(x, 0, 4), 4);
        areBad(x.copy(-1, 0, 0, 0, 1), x.copy(8, 0, 0, 0, 1), x.copy(0, 0, -1, 0, 1), x.copy(0, 0, 8, 0, 1),
            x.copy(3, 0, 8, 0, 1));
    }

    private static void drop() {
        WeirWords x = new WeirWords();
        x.row(0, 0, 40);
        x.row(7, 0, 0);
        is("drop(0)", x.drop(0), 40);
        is("drop(0) again", x.drop(0), NULL);
        is("set(0, 0, 1)", x.set(0, 0, 1), NULL);
        is("a row of none is there", x.drop(7), 0);
        is("count(0)", x.count(0), 0);
        areBad(x.drop(-1), x.drop(8));
    }

    private static void feed() {
        WeirWords x = new WeirWords();
        is("feed(0)", x.feed(0), 1);
        is("feed(255)", x.feed(255), 2);
        areBad(x.feed(-1), x.feed(256), x.feed(LEAST), x.feed(MOST));
        for (int i = 3; i <= 110; i++) {
            is("feed", x.feed('c'), i);
        }
        is("the 111th", x.feed('c'), FULL);
        is("BAD is ahead of FULL", x.feed(256), BAD);
        is("count(9)", x.count(9), 110);
        is("river()", x.river(), -1000100);
        is("count(9)", x.count(9), 0);
        is("feed anew", x.feed('r'), 1);
    }

    private static void faulty(String text, int place, int number) {
        WeirWords x = new WeirWords();
        is("river() of " + text, read(x, text), -1000100 - place);
        is("fault() of " + text, x.fault(), number);
        is("count(9)", x.count(9), 0);
        is("count(1)", x.count(1), 0);
    }

    private static void river() {
        String law = "r5,2;";
        String four = "c0;c1;c2;c3;";
        String twelve = four + four + four;
        is("4 cells", read(new WeirWords(), law + four), 4);
        is("12 cells", read(new WeirWords(), "r15,10;" + twelve), 12);
        is("the least", read(new WeirWords(), "r0,0;c0;c0;c0;c0;"), 4);
        is("two figures", read(new WeirWords(), "r05,02;c00;c01;c02;c03;s01,00;e60,03;"), 4);
        String seven = "s60,11;h60,11;f60,11;m60,11;e60,11;s60,11;s60,11;";
        is("the most", read(new WeirWords(), "r15,10;" + twelve + seven), 12);

        faulty("", 0, 1);
        faulty("x", 0, 1);
        faulty("R", 0, 1);
        faulty(" r", 0, 1);
        faulty("5", 0, 1);
        faulty("rr", 1, 1);
        faulty("r,", 1, 1);
        faulty("r15", 3, 1);
        faulty("r16", 1, 2);
        faulty("r99,", 1, 2);
        faulty("r016,", 1, 1);
        faulty("r999,", 1, 1);
        faulty("r5;", 2, 1);
        faulty("r5 ,", 2, 1);
        faulty(four, 0, 1);
        faulty("," + four, 0, 1);
        faulty("r5,;", 3, 1);
        faulty("r5,11;", 3, 2);
        faulty("r5,100;", 3, 1);
        faulty("r5,2,", 4, 1);
        faulty("r5,2;s", 5, 1);
        faulty(law + "d", 5, 1);
        faulty(law + "c", 6, 1);
        faulty(law + "c4", 6, 2);
        faulty(law + "c111", 6, 1);
        faulty(law + "c1,", 7, 1);
        faulty(law + "c1;c1;c1;", 14, 1);
        faulty(law + "c1;c1;c1;s1,0;", 14, 1);
        faulty(law + "c1;c1;c1;r", 14, 1);
        faulty(law + twelve + "c", 41, 3);
        faulty(law + twelve + "c9;", 41, 3);
        faulty(law + four + "r", 17, 1);
        faulty(law + four + ";", 17, 1);
        faulty(law + four + "7", 17, 1);
        faulty(law + four + "s1,0;c", 22, 1);
        faulty(law + four + "s", 18, 1);
        faulty(law + four + "s0,0;", 18, 2);
        faulty(law + four + "s61,0;", 18, 2);
        faulty(law + four + "s100,0;", 18, 1);
        faulty(law + four + "s1;", 19, 1);
        faulty(law + four + "s1,4;", 20, 2);
        faulty(law + four + "s1,000;", 20, 1);
        faulty(law + four + "s1,3", 21, 1);
        faulty(law + four + "s1,3,", 21, 1);
        String words = "s1,0;h1,0;f1,0;m1,0;e1,0;s1,0;s1,0;";
        faulty(law + four + words + "s", 17 + 35, 3);
        faulty(law + four + words + "e0,9;", 17 + 35, 3);
        faulty(law + four + words + "c", 17 + 35, 1);
        faulty(law + four + words + "z", 17 + 35, 1);
        faulty(law + four + (char) 233, 17, 1);
        faulty(law + four + (char) 0, 17, 1);
        aRiverInPlaceOfAnother();
    }

    private static void aRiverInPlaceOfAnother() {
        WeirWords x = with(MIXED);
        x.image(0);
        x.row(0, 0, 3);
        x.minutes(5);
        is("a fault", read(x, "r1,1;c9;"), -1000106);
        is("all stays: minute", x.count(3), 5);
        is("all stays: acts", x.count(8), 5);
        is("all stays: words", x.count(2), 5);
        is("all stays: gone", x.count(7), 2);
        is("all stays: cells", x.count(1), 6);
        is("river()", read(x, "r3,1;c1;c0;c0;c0;e1,3;"), 4);
        is("minute 0", x.count(3), 0);
        is("none is gone", x.count(7), 0);
        is("words", x.count(2), 1);
        is("rain", x.count(4), 3);
        is("edge", x.count(5), 1);
        is("the tape is empty", x.count(9), 0);
        is("no act can be undone", x.undo(), STATE);
        is("rows stay", x.drop(0), 3);
        is("images stay", x.restore(0), 1);
        is("as the image kept it", x.count(1), 6);
        x.minutes(7);
        x.say(1, 30, 0);
        x.calm(9, 0);
        is("river()", read(x, "r0,0;c0;c0;c0;c0;s8,0;"), 4);
        is("minute 0 yet", x.count(3), 0);
        is("none of the words before", x.quarrel(0), 8);
        is("none of the words before", x.quarrel(9), 8);
        is("none of the words before", x.kept(), 1);
        is("none of the words before", x.cell(0, 2), 1);
        is("none of the words before", x.share(0, 7), 7);
        is("none of the words before", x.calm(1, 1), 8);
        is("none of the words before", x.swift(2, 0), 2);
        is("none of the words before", x.drawn(1, 1, 0), 8);
        is("none of the words before", x.kind(1), BAD);
        is("none of the cells before", x.cell(4, 0), BAD);
    }

    private static void fault() {
        WeirWords x = new WeirWords();
        is("fault()", x.fault(), 0);
        read(x, "r16");
        is("fault()", x.fault(), 2);
        read(x, STILL);
        is("the latest stays", x.fault(), 2);
        read(x, "r0,0;" + "c0;".repeat(13));
        is("fault()", x.fault(), 3);
        read(x, "");
        is("fault()", x.fault(), 1);
    }

    private static void where(WeirWords x, int word, int size, int cell) {
        is("size of " + word, x.word(word, 0), size);
        is("cell of " + word, x.word(word, 3), cell);
    }

    private static void minutes() {
        // Ten cells, no edge that matters, rain in minute 1 (and 5, 9) alone.
        WeirWords x = with("r2,10;c1;c2;c3;c0;c1;c1;c1;c1;s9,0;h9,1;f9,1;f9,0;f9,3;s9,3;h1,4;");
        is("minutes(1)", x.minutes(1), 64);
        where(x, 0, 9, 1);
        where(x, 1, 8, 3);
        where(x, 2, 9, 2);
        where(x, 3, 9, 1);
        where(x, 4, 9, 3);
        where(x, 5, 9, 3);
        where(x, 6, 0, 5);
        is("in minute 1, with rain", x.minutes(1), 64);
        where(x, 0, 9, 4);
        where(x, 1, 7, 3);
        where(x, 2, 9, 5);
        where(x, 3, 9, 3);
        where(x, 4, 9, 3);
        is("in minutes 2, 3", x.minutes(2), 64);
        where(x, 2, 9, 7);
        is("in minute 4: froth goes one at least", x.minutes(1), 64 + 4);
        where(x, 2, 0, 7);
        where(x, 0, 9, 7);
        where(x, 1, 4, 3);
        is("beyond the last", x.minutes(1), 64 + 1 + 4);
        where(x, 0, 0, 7);
        is("count(3)", x.count(3), 6);
        is("count(8)", x.count(8), 6);
        areBad(x.minutes(0), x.minutes(25), x.minutes(-1), x.minutes(LEAST), x.minutes(MOST));
        is("no river, BAD too", new WeirWords().minutes(0), STATE);
        is("count(3)", x.count(3), 6);
        overTheEdge();
        upTheRiver();
        rainByFours();
        theLastMinute();
    }

    private static void rainByFours() {
        // Froth in a cell of SPEED 2 goes one cell by a minute without rain, two by one with rain.
        WeirWords x = with("r9,10;c2;c2;c2;c2;c2;c2;c2;c2;c2;c2;c2;c2;f9,0;");
        int[] cells = {2, 3, 4, 6, 8, 9, 10};
        for (int i = 0; i < cells.length; i++) {
            is("foretold, behind " + (i + 1), x.ahead(0, i + 1, 0), cells[i]);
        }
        is("gone behind 8", x.over(0), 8);
        fill(x, 0, cells);
        is("told", x.fits(0, 0, 0, 7, 2), 1 << 9);
        for (int i = 0; i < cells.length; i++) {
            is("rain by minutes", x.cell(0, 1), (9 >> i % 4 & 1) == 1 ? 3 : 2);
            x.minutes(1);
            where(x, 0, 9, cells[i]);
            if (i + 1 < cells.length) {
                is("foretold from minute " + (i + 1), x.ahead(0, 1, 0), cells[i + 1]);
            }
        }
    }

    private static void overTheEdge() {
        WeirWords x = with("r0,1;c1;c1;c1;c1;c2;s9,1;s1,1;h9,1;h3,1;s9,0;s9,2;f7,1;");
        is("minutes(1)", x.minutes(1), 2 + 8);
        where(x, 0, 4, 2);
        where(x, 1, 0, 2);
        where(x, 2, 3, 2);
        where(x, 3, 0, 2);
        where(x, 4, 9, 1);
        where(x, 5, 9, 3);
        where(x, 6, 3, 2);
        x = with("r0,2;c3;c3;c3;c0;c0;c0;h2,0;s8,1;s8,2;h1,2;s1,0;");
        is("minutes(1)", x.minutes(1), 1 + 8 + 16);
        where(x, 0, 0, 3);
        where(x, 1, 4, 4);
        where(x, 2, 4, 5);
        where(x, 3, 0, 5);
        where(x, 4, 0, 3);
        x = with("r0,3;c1;c1;c1;c1;s9,3;h9,2;s7,2;");
        is("beyond the last, from the edge", x.minutes(1), 1);
        where(x, 0, 0, 3);
        where(x, 1, 8, 3);
        where(x, 2, 7, 3);
    }

    private static void upTheRiver() {
        // The edge is cell 3; minute 1 has rain.
        WeirWords x = with("r2,3;c0;c1;c2;c2;c1;c2;c3;c1;m20,4;m19,4;e20,5;e19,5;m9,6;m9,0;e9,3;");
        is("minutes(1)", x.minutes(1), 0);
        where(x, 0, 20, 3);
        where(x, 1, 19, 4);
        where(x, 2, 20, 3);
        where(x, 3, 19, 4);
        where(x, 4, 9, 6);
        where(x, 5, 9, 0);
        where(x, 6, 9, 1);
        is("with rain: pace of cell 3 is 3, of cell 4 is 2, of cell 1 is 2", x.minutes(1), 0);
        where(x, 0, 20, 3);
        where(x, 1, 19, 4);
        where(x, 2, 20, 3);
        where(x, 3, 19, 4);
        where(x, 6, 9, 0);
        is("minute 2: an eel goes two again", x.minutes(1), 0);
        where(x, 0, 20, 2);
        where(x, 2, 20, 1);
        where(x, 6, 9, 0);
        x.say(2, 1, 7);
        is("minute 3: an eel goes one", x.minutes(1), 0);
        where(x, 2, 1, 6);
        is("minute 4: pace of cell 6 is 3", x.minutes(1), 0);
        where(x, 2, 1, 6);
        x = with("r0,0;c0;c0;c0;c3;c0;c0;e9,4;e9,2;e20,2;m19,1;m20,1;e19,1;");
        x.minutes(1);
        where(x, 0, 9, 3);
        where(x, 1, 9, 1);
        where(x, 2, 20, 0);
        where(x, 3, 19, 1);
        where(x, 4, 20, 0);
        where(x, 5, 19, 1);
    }

    private static void theLastMinute() {
        WeirWords x = with("r0,0;c0;c0;c0;c0;");
        for (int i = 0; i < 416; i++) {
            x.minutes(24);
        }
        is("count(3)", x.count(3), 9984);
        is("minutes(16)", x.minutes(16), FULL);
        is("BAD is ahead of FULL", x.minutes(25), BAD);
        is("nothing is changed", x.count(3), 9984);
        is("minutes(15)", x.minutes(15), 0);
        is("minute 9999", x.count(3), 9999);
        is("minutes(1)", x.minutes(1), FULL);
        is("count(8)", x.count(8), 24);
    }

    private static void say() {
        WeirWords x = with(MIXED);
        is("say(1, 60, 5)", x.say(1, 60, 5), 9);
        where(x, 1, 60, 5);
        is("say(1, 1, 0)", x.say(1, 1, 0), 60);
        is("an act each", x.count(8), 2);
        x.minutes(1);
        is("gone", x.word(1, 2), 1);
        is("say of one that is gone", x.say(1, 7, 3), 0);
        is("gone no more", x.word(1, 2), 0);
        where(x, 1, 7, 3);
        is("the same again is an act", x.say(1, 7, 3), 7);
        is("count(8)", x.count(8), 5);
        areBad(x.say(-1, 1, 0), x.say(5, 1, 0), x.say(0, 0, 0), x.say(0, 61, 0), x.say(0, 1, -1), x.say(0, 1, 6),
            new WeirWords().say(0, 1, 0));
        is("count(8)", x.count(8), 5);
    }

    private static void speed() {
        WeirWords x = with(MIXED);
        is("speed(4, 0)", x.speed(4, 0), 3);
        is("speed(4, 3)", x.speed(4, 3), 0);
        is("speed(4, 3)", x.speed(4, 3), 3);
        is("cell(4, 0)", x.cell(4, 0), 3);
        is("an act each", x.count(8), 3);
        areBad(x.speed(-1, 0), x.speed(6, 0), x.speed(0, -1), x.speed(0, 4), new WeirWords().speed(0, 0));
        is("count(8)", x.count(8), 3);
    }

    private static void rain() {
        WeirWords x = with(MIXED);
        is("rain(15)", x.rain(15), 5);
        is("rain(0)", x.rain(0), 15);
        is("rain(0)", x.rain(0), 0);
        is("count(4)", x.count(4), 0);
        is("an act each", x.count(8), 3);
        areBad(x.rain(-1), x.rain(16));
        is("no river, BAD too", new WeirWords().rain(16), STATE);
    }

    private static void undo() {
        WeirWords x = with(MIXED);
        is("none", x.undo(), STATE);
        x.minutes(2);
        x.say(0, 3, 5);
        x.speed(0, 2);
        x.rain(1);
        is("rain undone", x.undo(), 4);
        is("count(4)", x.count(4), 5);
        is("speed undone", x.undo(), 3);
        is("cell(0, 0)", x.cell(0, 0), 1);
        is("say undone", x.undo(), 2);
        where(x, 0, 20, 3);
        is("a minute undone", x.undo(), 1);
        is("count(3)", x.count(3), 1);
        where(x, 0, 40, 2);
        is("another", x.undo(), 0);
        where(x, 0, 40, 0);
        where(x, 1, 9, 1);
        is("count(3)", x.count(3), 0);
        is("none", x.undo(), STATE);
        x.minutes(3);
        is("gone", x.count(7), 2);
        x.undo();
        x.undo();
        is("gone no more", x.count(7), 0);
        theOldestIsForgotten();
    }

    private static void theOldestIsForgotten() {
        WeirWords x = with(MIXED);
        x.rain(9);
        x.minutes(24);
        is("24 at most", x.count(8), 24);
        for (int left = 23; left >= 0; left--) {
            is("undo()", x.undo(), left);
        }
        is("none", x.undo(), STATE);
        is("count(3)", x.count(3), 0);
        is("the rain was forgotten", x.count(4), 9);
    }

    private static void word() {
        WeirWords x = with(MIXED);
        is("word(3, 0)", x.word(3, 0), 25);
        is("word(3, 1)", x.word(3, 1), 5);
        is("word(3, 2)", x.word(3, 2), 0);
        is("word(3, 3)", x.word(3, 3), 5);
        x.minutes(2);
        is("gone: size", x.word(1, 0), 0);
        is("gone: cell", x.word(1, 1), NONE);
        is("gone", x.word(1, 2), 1);
        is("gone: its cell", x.word(1, 3), 4);
        areBad(x.word(-1, 0), x.word(5, 0), x.word(0, -1), x.word(0, 4), new WeirWords().word(0, 0));
    }

    private static void cell() {
        WeirWords x = with(MIXED);
        is("cell(4, 0)", x.cell(4, 0), 3);
        is("with rain", x.cell(4, 1), 4);
        is("still, with rain", x.cell(3, 1), 0);
        is("words", x.cell(0, 2), 5);
        is("none", x.cell(3, 2), 0);
        x.minutes(1);
        is("no rain", x.cell(4, 1), 3);
        is("words", x.cell(4, 2), 2 + 8 + 16);
        x.minutes(1);
        is("rain", x.cell(4, 1), 4);
        is("none that is gone", x.cell(4, 2), 8 + 16);
        areBad(x.cell(-1, 0), x.cell(6, 0), x.cell(0, -1), x.cell(0, 3), new WeirWords().cell(0, 0));
    }

    private static void ahead() {
        WeirWords x = with(MIXED);
        is("ahead(0, 0, 0)", x.ahead(0, 0, 0), 0);
        is("ahead(0, 0, 1)", x.ahead(0, 0, 1), 40);
        is("ahead(0, 2, 0)", x.ahead(0, 2, 0), 3);
        is("ahead(0, 2, 1)", x.ahead(0, 2, 1), 20);
        is("ahead(1, 1, 0)", x.ahead(1, 1, 0), 4);
        is("ahead(1, 1, 1)", x.ahead(1, 1, 1), 3);
        is("ahead(1, 2, 0)", x.ahead(1, 2, 0), NONE);
        is("ahead(1, 60, 1)", x.ahead(1, 60, 1), 0);
        is("nothing changes", x.count(3), 0);
        is("nothing changes", x.count(8), 0);
        x.minutes(2);
        is("gone now", x.ahead(1, 0, 0), NONE);
        WeirWords y = with("r0,0;c1;c1;c1;c1;c1;c1;c1;c1;c1;c1;c1;c1;e20,11;");
        int[] even = {11, 9, 8, 6, 5, 3, 2, 0, 0};
        for (int d = 0; d < even.length; d++) {
            is("an eel from minute 0, behind " + d, y.ahead(0, d, 0), even[d]);
        }
        y.minutes(1);
        y.say(0, 20, 11);
        int[] odd = {11, 10, 8, 7, 5, 4, 2, 1, 0};
        for (int d = 0; d < odd.length; d++) {
            is("an eel from minute 1, behind " + d, y.ahead(0, d, 0), odd[d]);
        }
        areBad(x.ahead(-1, 0, 0), x.ahead(5, 0, 0), x.ahead(0, -1, 0), x.ahead(0, 61, 0), x.ahead(0, 0, -1),
            x.ahead(0, 0, 2), new WeirWords().ahead(0, 0, 0));
    }

    private static void quarrel() {
        WeirWords x = with(MIXED);
        is("quarrel(0)", x.quarrel(0), 116);
        is("quarrel(1)", x.quarrel(1), 110);
        is("quarrel(60)", x.quarrel(60), 72);
        is("nothing changes", x.count(6), 116);
        areBad(x.quarrel(-1), x.quarrel(61));
        is("no river, BAD too", new WeirWords().quarrel(61), STATE);
        is("no words", with("r0,0;c1;c1;c1;c1;").quarrel(3), 0);
    }

    private static void over() {
        WeirWords x = with(MIXED);
        is("over(0)", x.over(0), NONE);
        is("over(1)", x.over(1), 2);
        x.minutes(1);
        is("over(1)", x.over(1), 1);
        x.minutes(1);
        is("gone now", x.over(1), 0);
        WeirWords y = with("r0,10;c0;c0;c0;c0;h60,0;h59,0;s1,0;");
        is("behind 60", y.over(0), 60);
        is("behind 59", y.over(1), 59);
        is("never", y.over(2), NONE);
        areBad(x.over(-1), x.over(5), new WeirWords().over(0));
    }

    private static void kept() {
        is("kept()", with(MIXED).kept(), 1 + 4 + 8 + 16);
        is("no words", with("r0,0;c1;c1;c1;c1;").kept(), 0);
        is("a shout is gone at 60", with("r0,10;c0;c0;c0;c0;h60,0;s1,0;").kept(), 2);
        is("no river", new WeirWords().kept(), STATE);
    }

    private static void calm() {
        WeirWords x = with("r0,1;c1;c1;c1;c1;s10,0;s30,1;");
        // As it is: behind 1 minute 10 + 15. Cell 1 still: 10 + 30; others: 10 + 15.
        is("of several the first", x.calm(1, 0), 0);
        is("how much", x.calm(1, 1), 25);
        // Behind 3: cell 0 still 10, cell 1 10 + 30, cells 2 and 3 5 + 15.
        is("behind 3", x.calm(3, 1), 10);
        is("behind 3", x.calm(3, 0), 0);
        // Here both leave cell 2 out: by its stillness both are gone behind 3.
        WeirWords y = with("r0,1;c1;c2;c1;c1;s10,0;s30,1;");
        is("behind 3", y.calm(3, 1), 0);
        is("behind 3", y.calm(3, 0), 2);
        is("behind 2", y.calm(2, 1), 5);
        is("behind 2", y.calm(2, 0), 2);
        is("behind 30", x.calm(30, 0), 0);
        is("behind 30", x.calm(30, 1), 10);
        is("nothing changes", x.cell(0, 0), 1);
        y.minutes(1);
        y.speed(3, 0);
        // 10 is in cell 1 and 15 in cell 3, that is still now.
        is("from now on", y.calm(2, 1), 15 + 5);
        is("from now on", y.calm(2, 0), 0);
        y.say(1, 8, 1);
        is("from now on", y.calm(2, 1), 5 + 4);
        areBad(x.calm(0, 0), x.calm(31, 0), x.calm(1, -1), x.calm(1, 2));
        is("no river, BAD too", new WeirWords().calm(0, 0), STATE);
        is("no words", with("r0,0;c1;c1;c1;c1;").calm(1, 0), 0);
    }

    private static void swift() {
        WeirWords x = with("r0,10;c0;c1;c0;c1;c1;s5,0;s5,2;");
        // Both stand still: cells 0 and 2 must be swift; 0 goes to 3, 2 beyond.
        is("how many", x.swift(3, 0), 2);
        is("which", x.swift(3, 1), 1 + 4);
        // Behind 2: 0 to 3, which must be swift, too.
        is("how many", x.swift(2, 0), 3);
        is("which", x.swift(2, 1), 1 + 4 + 8);
        is("not behind 1", x.swift(1, 0), NONE);
        is("not behind 1", x.swift(1, 1), NONE);
        is("nothing changes", x.cell(0, 0), 0);
        areBad(x.swift(0, 0), x.swift(31, 0), x.swift(1, -1), x.swift(1, 2));
        is("no river, BAD too", new WeirWords().swift(0, 0), STATE);
        is("no words: none", with("r0,0;c1;c1;c1;c1;").swift(1, 0), 0);
        is("no words: none", with("r0,0;c1;c1;c1;c1;").swift(1, 1), 0);
        is("gone by itself", with("r0,0;c1;c1;c1;c1;s9,0;").swift(4, 0), 0);
        // Behind 3 minutes one of cells 0 .. 2 must be swift; of several the least.
        is("of several the least", with("r0,10;c1;c1;c1;c1;s9,0;").swift(3, 1), 1);
        is("a salmon stays", with("r0,10;c0;c0;c0;c0;m1,3;").swift(30, 0), NONE);
        is("an eel stays", with("r0,10;c3;c3;c3;c3;s1,0;e1,3;").swift(30, 1), NONE);
        is("a shout dies away", with("r0,10;c0;c0;c0;c0;h30,0;").swift(30, 0), 0);
        is("a shout must go", with("r0,10;c0;c0;c0;c0;h31,1;").swift(30, 1), 2);
        WeirWords y = with("r0,10;c0;c0;c0;c0;s1,0;s1,1;s1,2;s1,3;m2,0;");
        is("a salmon stays", y.swift(30, 0), NONE);
        y = with("r0,10;c0;c0;c0;c0;s1,0;s1,1;s1,2;s1,3;");
        is("all", y.swift(2, 0), 4);
        is("all", y.swift(2, 1), 15);
        y.speed(3, 1);
        is("from now on", y.swift(2, 1), 7);
        y.say(2, 1, 3);
        is("from now on", y.swift(2, 1), 3);
    }

    private static void stir() {
        WeirWords x = with("r0,10;c0;c1;c0;c1;c1;s5,0;s5,2;h3,1;m9,4;");
        is("stir(0, 0, 30)", x.stir(0, 0, 30), 1 + 2);
        is("stir(1, 2, 3)", x.stir(1, 2, 3), 1);
        is("stir(1, 2, 2)", x.stir(1, 2, 2), 2);
        is("stir(1, 2, 1)", x.stir(1, 2, 1), 3);
        is("another cell does not", x.stir(1, 3, 30), NONE);
        is("a shout dies away", x.stir(2, 0, 3), 0);
        is("not yet", x.stir(2, 0, 2), NONE);
        is("a salmon", x.stir(3, 4, 30), NONE);
        is("nothing changes", x.cell(2, 0), 0);
        x.minutes(3);
        is("gone now", x.stir(2, 1, 1), 0);
        // Rain in minute 3 alone, in which the stick is in cell 3.
        WeirWords y = with("r8,10;c1;c1;c1;c1;c1;c1;c1;s1,0;");
        y.minutes(3);
        is("by 3 to 6, and beyond", y.stir(0, 3, 2), 2);
        is("by 3 to 5, 6, and beyond", y.stir(0, 3, 3), 1);
        is("cell 4 is left out", y.stir(0, 4, 3), 0);
        is("by 3 to 5, and beyond", y.stir(0, 5, 2), 2);
        areBad(x.stir(-1, 0, 1), x.stir(4, 0, 1), x.stir(0, -1, 1), x.stir(0, 5, 1), x.stir(0, 0, 0),
            x.stir(0, 0, 31), new WeirWords().stir(0, 0, 1));
    }

    private static void share() {
        WeirWords x = with(MIXED);
        int[] hundred = {35, 8, 26, 21, 10};
        for (int w = 0; w < 5; w++) {
            is("share(" + w + ", 100)", x.share(w, 100), hundred[w]);
        }
        is("share(0, 0)", x.share(0, 0), 0);
        is("share(0, 116)", x.share(0, 116), 40);
        is("share(0, 1)", x.share(0, 1), 1);
        is("share(1, 1)", x.share(1, 1), 0);
        x.minutes(2);
        // 20, 0, 30, 25, 12 (froth 30 is in cell 2 yet): 87 together.
        is("gone", x.share(1, 999), 0);
        is("one over each to the first that have size", x.share(0, 4), 0 + 1);
        is("of 4 two are over", x.share(2, 4), 1 + 1);
        is("of 4 two are over", x.share(3, 4), 1);
        is("of 4 two are over", x.share(4, 4), 0);
        WeirWords ones = with("r0,0;c0;c0;c0;c0;s1,0;s1,1;s1,2;");
        is("of 5 two are over", ones.share(0, 5), 2);
        is("of 5 two are over", ones.share(1, 5), 2);
        is("of 5 two are over", ones.share(2, 5), 1);
        is("all of it", with("r0,0;c0;c0;c0;c0;s1,0;").share(0, 999), 999);
        areBad(x.share(-1, 0), x.share(5, 0), x.share(0, -1), x.share(0, 1000), new WeirWords().share(0, 0));
        WeirWords y = with("r0,0;c3;c3;c3;c3;h1,0;");
        y.minutes(1);
        is("none has size", y.share(0, 999), 0);
    }

    private static void fits() {
        WeirWords x = with("r0,1;c1;c1;c2;c0;c1;s6,1;h2,1;m9,3;");
        fill(x, 0, 2, 4, 99, 99, 0, 2);
        is("a stick or a shout, not froth", x.fits(0, 0, 0, 2, 0), 2 + 4);
        is("a shout or stick by one", x.fits(0, 0, 0, 1, 0), 2 + 4 + 8);
        is("starts", x.fits(0, 0, 0, 2, 1), 2);
        is("starts by 4 alone", x.fits(0, 0, 1, 1, 1), 4);
        is("starts by gone", x.fits(0, 0, 2, 1, 1), 16);
        is("rains: not in minute 0, not in 1", x.fits(0, 0, 0, 2, 2), 0x1111);
        is("rains: in minute 0 or not", x.fits(0, 0, 2, 1, 2), 0);
        // A stick of 2 or more is 1 or more behind the edge; one of 1 is gone there.
        is("sizes", x.fits(0, 0, 0, 1, 3), 59);
        is("the least", x.fits(0, 0, 0, 1, 4), 2);
        is("sizes by gone", x.fits(0, 0, 3, 1, 3), 1);
        is("the least by gone", x.fits(0, 0, 3, 1, 4), 1);
        // A shout of 6 is 2 behind minute 0, 1 behind minute 1.
        is("sizes of a shout", x.fits(1, 0, 0, 3, 3), 55);
        is("the least of a shout", x.fits(1, 0, 0, 3, 4), 6);
        is("none", x.fits(0, 0, 4, 2, 3), 0);
        is("none", x.fits(0, 0, 4, 2, 4), NONE);
        is("none", x.fits(0, 0, 4, 2, 0), 0);
        fill(x, 1, 2, 2);
        is("a salmon's edge", x.fits(2, 1, 0, 2, 3), 19);
        is("a salmon or an eel", x.fits(2, 1, 0, 2, 0), 16 + 32);
        fill(x, 3, 4);
        is("by rain alone", x.fits(2, 3, 0, 1, 1), 0);
        is("by rain alone", inMinute5().fits(0, 3, 0, 1, 2), 0xCCCC);
        is("sizes up to 60", with("r0,0;c0;c0;c0;c0;s1,0;h60,0;").fits(0, 0, 0, 1, 3), NULL);
        WeirWords dying = with("r0,10;c0;c0;c0;c0;h60,2;");
        fill(dying, 0, 2, 2, 2, 2, 2, 2, 2, 2, 2, 2, 2, 2);
        is("the most", dying.fits(0, 0, 0, 12, 3), 60 - 12);
        is("the least", dying.fits(0, 0, 0, 12, 4), 13);
        WeirWords eel = with("r0,10;c0;c0;c0;c0;c0;c0;c0;c0;c0;c0;c0;c0;e60,11;");
        fill(eel, 0, 9, 8, 6, 5, 3, 2, 0, 0);
        is("an eel from minute 0", eel.fits(0, 0, 0, 8, 0), 32);
        eel.minutes(1);
        is("an eel from minute 1", eel.fits(0, 0, 1, 7, 0), 32);
        is("an eel from minute 1", eel.fits(0, 0, 0, 7, 0), 0);
        areBad(x.fits(-1, 0, 0, 1, 0), x.fits(3, 0, 0, 1, 0), x.fits(0, -1, 0, 1, 0), x.fits(0, 8, 0, 1, 0),
            x.fits(0, 0, 0, 0, 0), x.fits(0, 0, 0, 13, 0), x.fits(0, 0, 0, 1, -1), x.fits(0, 0, 0, 1, 5),
            x.fits(0, 0, -1, 0, 0), new WeirWords().fits(0, 0, 0, 1, 0));
        is("missing", x.fits(0, 7, -1, 1, 0), NULL);
        is("no such place", x.fits(0, 0, -1, 1, 0), PLACE);
        is("no such place", x.fits(0, 0, 5, 2, 0), PLACE);
        is("no such place", x.fits(0, 0, 6, 1, 0), PLACE);
        is("no such place", x.fits(0, 0, MOST, 12, 0), PLACE);
        is("no such place", x.fits(0, 0, LEAST, 12, 0), PLACE);
        fill(x, 2, 1, 1, 1, 1, 1, 1, 1, 1, 1, 1, 1, 1);
        is("12", x.fits(0, 2, 0, 12, 0), 0);
        x.minutes(1);
        is("gone, ahead of missing", x.fits(1, 7, 0, 1, 0), STATE);
        is("BAD ahead of gone", x.fits(1, 8, 0, 1, 0), BAD);
        is("nothing changes", x.word(0, 0), 3);
    }

    /** A stick in cell 2 of SPEED 1, that by row 3 comes to cell 4: with rain now. */
    private static WeirWords inMinute5() {
        WeirWords x = with("r0,10;c1;c1;c1;c1;c1;s9,2;");
        x.minutes(5);
        x.say(0, 9, 2);
        fill(x, 3, 4);
        return x;
    }

    private static void chance() {
        // Gone in 1 minute just with rain; in 2 always.
        WeirWords x = with("r0,10;c1;c1;c1;c1;s5,2;m9,3;s5,0;");
        is("above", x.chance(0, 1, 3, 0), 3);
        is("below", x.chance(0, 1, 3, 1), 10);
        is("in lowest terms", x.chance(0, 1, 5, 0), 1);
        is("in lowest terms", x.chance(0, 1, 5, 1), 2);
        is("always", x.chance(0, 2, 3, 0), 1);
        is("always", x.chance(0, 2, 3, 1), 1);
        is("0 is 0", x.chance(1, 8, 7, 0), 0);
        is("by 1", x.chance(1, 8, 7, 1), 1);
        is("no rain", x.chance(0, 1, 0, 0), 0);
        is("no rain", x.chance(0, 1, 0, 1), 1);
        is("all rain", x.chance(0, 1, 10, 0), 1);
        is("all rain", x.chance(0, 1, 10, 1), 1);
        is("no minutes", x.chance(0, 0, 5, 0), 0);
        is("no minutes", x.chance(0, 0, 5, 1), 1);
        // From cell 0: behind 3 minutes if one of the three has rain: 1 - 0.7^3 = 657 / 1000.
        is("above", x.chance(2, 3, 3, 0), 657);
        is("below", x.chance(2, 3, 3, 1), 1000);
        x.rain(15);
        is("whatever RAIN says", x.chance(2, 3, 3, 0), 657);
        is("nothing changes", x.count(4), 15);
        // Each goes 8 in 8 minutes and 1 more with each rain: from cell 0 of twelve 4 rains or more are needed,
        // 502435 of 100000000; from cell 3 just 1, all but 9 to the 8th.
        WeirWords y = with("r0,10;c1;c1;c1;c1;c1;c1;c1;c1;c1;c1;c1;c1;s5,0;s5,3;");
        is("4 of 8 by 0.1", y.chance(0, 8, 1, 0), 100487);
        is("4 of 8 by 0.1", y.chance(0, 8, 1, 1), 20000000);
        is("1 of 8 by 0.1", y.chance(1, 8, 1, 0), 56953279);
        is("1 of 8 by 0.1", y.chance(1, 8, 1, 1), 100000000);
        areBad(x.chance(-1, 0, 0, 0), x.chance(3, 0, 0, 0), x.chance(0, -1, 0, 0), x.chance(0, 9, 0, 0),
            x.chance(0, 0, -1, 0), x.chance(0, 0, 11, 0), x.chance(0, 0, 0, -1), x.chance(0, 0, 0, 2),
            new WeirWords().chance(0, 0, 0, 0));
        x.minutes(4);
        is("gone now", x.chance(0, 0, 5, 0), 1);
        is("gone now", x.chance(0, 8, 5, 0), 1);
    }

    private static void drawn() {
        // X by the seed 1: 16807, 282475249, 1622650073, 984943658, 1144108930.
        WeirWords x = with("r0,10;c0;c0;c0;c0;c0;h1,0;");
        is("no minutes", x.drawn(0, 1, 0), 1);
        is("no minutes", x.drawn(0, 1, 1), 0);
        is("it is gone behind 1", x.drawn(1, 1, 0), 0);
        is("said anew never", x.drawn(1, 1, 1), 0);
        // Ahead of minute 1: 282475249 by 60 leaves 49, so SIZE 50, less 1.
        is("said anew once", x.drawn(2, 1, 1), 1);
        is("said anew: size", x.drawn(2, 1, 0), 49);
        is("a shout yet", x.drawn(3, 1, 0), 48);
        is("nothing changes", x.count(3), 0);
        is("nothing changes", x.count(6), 1);
        // One word goes from the last cell in minute 0; in cell 282475249 by 4, 1, it is said anew:
        // RAIN is 282475249 by 16, 1: none in minute 1. From there to 2, by minute 2 to 3 or beyond:
        // 1622650073 by 16 is 9, bit 2 is not set: to 3.
        WeirWords y = with("r0,10;c1;c1;c1;c1;s1,3;");
        is("said anew", y.drawn(2, 1, 0), 50);
        is("in cell 1", y.drawn(3, 1, 0), 50);
        // 984943658 by 16 is 10, bit 3 is set: gone in minute 3; 1144108930 by 60 is 10: said anew, SIZE 11,
        // in cell 2; 1144108930 by 16 is 2, bit 0 is not set.
        is("gone", y.drawn(4, 1, 0), 0);
        is("once yet", y.drawn(4, 1, 1), 1);
        is("said anew again", y.drawn(5, 1, 0), 11);
        is("twice", y.drawn(5, 1, 1), 2);
        // RAIN of X decides: by the seed 1 X is 16807, 7 by 16, so that minute 0 has rain, whatever RAIN said.
        WeirWords z = with("r0,0;c1;c1;c1;c1;s40,0;s40,2;");
        is("with rain now", z.drawn(1, 1, 0), 20);
        z.rain(15);
        // By the seed 2 X is 33614, 14 by 16: minute 0 has none.
        is("no rain now", z.drawn(1, 2, 0), 20 + 40);
        is("no words", with("r0,0;c1;c1;c1;c1;").drawn(60, 999999, 0), 0);
        is("no words", with("r0,0;c1;c1;c1;c1;").drawn(60, 999999, 1), 0);
        areBad(x.drawn(-1, 1, 0), x.drawn(61, 1, 0), x.drawn(0, 0, 0), x.drawn(0, 1000000, 0), x.drawn(0, 1, -1),
            x.drawn(0, 1, 2));
        is("no river, BAD too", new WeirWords().drawn(-1, 0, 9), STATE);
    }

    private static void imagesAndRestore() {
        WeirWords x = new WeirWords();
        is("image(0)", x.image(0), STATE);
        is("restore(0)", x.restore(0), STATE);
        areBad(x.image(-1), x.image(2), x.restore(-1), x.restore(2));
        read(x, MIXED);
        x.minutes(2);
        is("image(1)", x.image(1), 1);
        is("restore(0)", x.restore(0), STATE);
        x.minutes(2);
        x.speed(3, 3);
        x.rain(0);
        is("image is no act", x.count(8), 6);
        is("image(0)", x.image(0), 1);
        is("restore(1)", x.restore(1), 1);
        is("minute", x.count(3), 2);
        is("rain", x.count(4), 5);
        is("speed", x.cell(3, 0), 0);
        is("gone", x.count(7), 2);
        where(x, 0, 20, 3);
        is("no act can be undone", x.undo(), STATE);
        is("restore is no act", x.count(8), 0);
        read(x, "r1,0;c0;c0;c0;c0;");
        is("restore(0), of another river", x.restore(0), 1);
        is("cells", x.count(1), 6);
        is("words", x.count(2), 5);
        is("edge", x.count(5), 2);
        is("minute", x.count(3), 4);
        is("speed", x.cell(3, 0), 3);
        is("kind", x.kind(4), 5);
        x.say(0, 60, 0);
        is("an image stays as it was", x.restore(0), 1);
        is("size", x.word(0, 0), 20);
        x.image(1);
        x.minutes(1);
        is("an image anew", x.restore(1), 1);
        is("minute", x.count(3), 4);
    }

    private static void kind() {
        WeirWords x = with(MIXED);
        for (int w = 0; w < 5; w++) {
            is("kind(" + w + ")", x.kind(w), w + 1);
        }
        areBad(x.kind(-1), x.kind(5), new WeirWords().kind(0));
    }

    private static void as() {
        WeirWords x = with(MIXED);
        int[] ofKinds = {0b000011, 0b000111, 0b001011, 0b010001, 0b110001};
        for (int w = 0; w < 5; w++) {
            for (int kind = 0; kind <= 5; kind++) {
                boolean is = (ofKinds[w] >> kind & 1) == 1;
                is("as(" + w + ", " + kind + ")", x.as(w, kind), is ? w : KIND);
                is("status()", x.status(), is ? 0 : 3);
            }
        }
        areBad(x.as(-1, 0), x.as(5, 0), x.as(0, -1), x.as(0, 6), new WeirWords().as(0, 0));
        is("nothing changes", x.kind(1), 2);
    }

    private static void asked(WeirWords x, int word, int what, int due, int... trace) {
        is("ask(" + word + ", " + what + ")", x.ask(word, what), due);
        for (int i = 0; i < trace.length; i++) {
            is("trace(" + i + ") of ask(" + word + ", " + what + ")", x.trace(i), trace[i]);
        }
        is("trace beyond its end", x.trace(trace.length), NONE);
    }

    private static void askAndTrace() {
        WeirWords x = with("r0,10;c1;c1;c1;c1;c1;c1;m30,2;s20,3;h10,4;f40,5;e15,1;");
        asked(x, 0, 0, 30 - 100, 13, 10);
        asked(x, 0, 1, 0 - (30 - 100), 23, 20, 13, 10);
        asked(x, 1, 0, 20 + (1 + 3), 11, 10, 21, 20);
        asked(x, 1, 1, 1 + 3, 21, 20);
        asked(x, 2, 0, -(10 + 2 * (2 + 4)), 12, 11, 10, 24, 21, 20);
        asked(x, 2, 1, 2 * (2 + 4), 24, 21, 20);
        asked(x, 3, 0, 40 + (3 + 5 - 1000), 11, 10, 22, 21, 20);
        asked(x, 3, 1, 3 + 5 - 1000, 22, 21, 20);
        asked(x, 4, 0, 2 * (15 - 100), 14, 13, 10);
        asked(x, 4, 1, 4 - 2 * (15 - 100), 23, 20, 14, 13, 10);
        areBad(x.ask(-1, 0), x.ask(5, 0), x.ask(0, -1), x.ask(0, 2), new WeirWords().ask(0, 0));
        is("the trace stays", x.trace(4), 10);
        is("trace(-1)", x.trace(-1), NONE);
        is("trace(16)", x.trace(16), NONE);
        is("trace(most)", x.trace(MOST), NONE);
        x.minutes(1);
        asked(x, 3, 0, 0 + (3 + 5 - 1000), 11, 10, 22, 21, 20);
        is("gone", x.word(3, 2), 1);
        read(x, "r");
        is("a text leaves the trace", x.trace(0), 11);
    }

    private static void count() {
        WeirWords x = with(MIXED);
        x.row(0, 0, 0);
        x.row(5, 0, 1);
        x.feed('r');
        x.minutes(2);
        x.rain(6);
        int[] due = {2, 6, 5, 2, 6, 2, 20 + 30 + 25 + 12, 2, 3, 1};
        for (int what = 0; what < due.length; what++) {
            is("count(" + what + ")", x.count(what), due[what]);
        }
        areBad(x.count(-1), x.count(10));
    }

    private static void status() {
        WeirWords x = with(STILL);
        x.drop(0);
        is("NULL", x.status(), 1);
        is("status() leaves it", x.status(), 1);
        x.row(0, 0, 3);
        is("none", x.status(), 0);
        x.row(0, 0, -1);
        is("SIZE", x.status(), 4);
        x.row(0, 0, 41);
        x.row(8, 0, 1);
        x.as(9, 0);
        is("BAD leaves it", x.status(), 4);
        x.set(0, 0, 1);
        is("none", x.status(), 0);
        x.set(0, 3, 1);
        is("PLACE", x.status(), 2);
        x.minutes(1);
        x.feed('r');
        x.river();
        is("a call without a row leaves it", x.status(), 2);
        x.row(1, 1, 1);
        x.copy(0, 0, 1, 0, 1);
        is("STORE", x.status(), 5);
        x.copy(0, 0, 0, 0, 1);
        is("none", x.status(), 0);
        x.as(0, 4);
        is("KIND", x.status(), 3);
        x.fits(0, 9, 0, 1, 0);
        is("BAD leaves it", x.status(), 3);
        x.fits(0, 0, 0, 1, 0);
        is("fits is with a row", x.status(), 0);
        x.fits(0, 7, 0, 1, 0);
        is("fits: NULL", x.status(), 1);
        x.as(0, 1);
        is("as() has none", x.status(), 0);
        x.fits(0, 0, 3, 1, 0);
        is("fits: PLACE", x.status(), 2);
        x.drop(1);
        is("drop: none", x.status(), 0);
        read(x, "r0,0;c0;c0;c0;c0;h1,0;");
        x.minutes(1);
        x.set(0, 9, 0);
        x.fits(0, 7, 0, 1, 0);
        is("STATE leaves it", x.status(), 2);
    }

    /** Nothing may throw, whatever the numbers. */
    private static void extremes() {
        int[] odd = {LEAST, LEAST + 1, -1, 0, 1, MOST - 1, MOST};
        WeirWords[] objects = {new WeirWords(), with(MIXED)};
        for (WeirWords x : objects) {
            for (int a : odd) {
                for (int b : odd) {
                    for (int c : odd) {
                        x.row(a, b, c);
                        x.set(a, b, c);
                        x.copy(a, b, c, a, b);
                        x.copy(0, a, 0, b, c);
                        x.say(a, b, c);
                        x.ahead(a, b, c);
                        x.stir(a, b, c);
                        x.fits(a, 0, b, 1, c);
                        x.fits(0, a, b, c, 0);
                        x.chance(a, b, 5, c);
                        x.drawn(a, b, c);
                    }
                    x.speed(a, b);
                    x.word(a, b);
                    x.cell(a, b);
                    x.calm(a, b);
                    x.swift(a, b);
                    x.share(a, b);
                    x.as(a, b);
                    x.ask(a, b);
                }
                x.drop(a);
                x.feed(a);
                x.minutes(a);
                x.rain(a);
                x.quarrel(a);
                x.over(a);
                x.image(a);
                x.restore(a);
                x.kind(a);
                x.trace(a);
                x.count(a);
            }
        }
        passed++;
    }
}
