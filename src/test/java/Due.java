/** What the tests of edges share: the sentence that is tested, the answers that are due, rivers and rows. */
final class Due {
    static final int NONE = -1000000, BAD = -1000001, STATE = -1000002, FULL = -1000003;
    static final int NULL = -1000011, PLACE = -1000012, KIND = -1000013, SIZE = -1000014, STORE = -1000015;
    static final int LEAST = Integer.MIN_VALUE, MOST = Integer.MAX_VALUE;

    /** Still water of twelve cells: where the stick, word 0, started is what a row of one item tells. */
    static final String STILL = "r0,10;c0;c0;c0;c0;c0;c0;c0;c0;c0;c0;c0;c0;s9,0;";
    static final String NO_WORDS = "r0,0;c1;c1;c1;c1;";
    /** Rain in minutes 0, 2; below cell 2 all is halved; one word of each kind. */
    static final String MIXED = "r5,2;c1;c2;c1;c0;c3;c1;s40,0;h9,1;f30,0;m25,5;e12,4;";

    static int sentences = 0;
    static int passed = 0;
    static int failed = 0;
    private static String sentence = "";

    private Due() {
    }

    /** The words of the document that the answers from here on are due by. */
    static void sentence(String words) {
        sentence = words;
        sentences++;
    }

    static void is(String call, int got, int want) {
        if (got == want) {
            passed++;
        } else {
            failed++;
            System.out.println("[" + sentence + "] " + call + " answered " + got + ", due is " + want);
        }
    }

    static void feed(WeirWords x, String text) {
        for (int i = 0; i < text.length(); i++) {
            x.feed(text.charAt(i));
        }
    }

    static int read(WeirWords x, String text) {
        feed(x, text);
        return x.river();
    }

    static WeirWords with(String text) {
        WeirWords x = new WeirWords();
        int cells = read(x, text);
        if (cells < 4) {
            is("river() of " + text, cells, 4);
        }
        return x;
    }

    static void fill(WeirWords x, int row, int... items) {
        x.row(row, 2, items.length);
        for (int i = 0; i < items.length; i++) {
            x.set(row, i, items[i]);
        }
    }

    /** Items of a row, each of 0 to 11, by the still water. */
    static void items(String call, WeirWords still, int row, int... due) {
        for (int i = 0; i < due.length; i++) {
            is(call + ": item " + i, still.fits(0, row, i, 1, 1), 1 << due[i]);
        }
    }

    static void where(String call, WeirWords x, int word, int size, int cell) {
        is(call + ": size of " + word, x.word(word, 0), size);
        is(call + ": cell of " + word, x.word(word, 3), cell);
    }

    /** A word alone in a river of its own, after a minute. */
    static void goes(String river, int size, int cell) {
        WeirWords x = with(river);
        x.minutes(1);
        where("a minute of " + river, x, 0, size, cell);
    }
}
