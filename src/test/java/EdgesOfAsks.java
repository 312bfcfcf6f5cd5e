/** KINDS, block 4; promises 29 to 34. */
final class EdgesOfAsks {
    /** A word of each kind, not in the order of kinds. */
    private static final String FIVE = "r0,10;c1;c1;c1;c1;c1;c1;m30,2;s20,3;h10,4;f40,5;e15,1;";

    private EdgesOfAsks() {
    }

    static void all() {
        kinds();
        as();
        bodies();
        whetherGoneOrNot();
        theTrace();
        ask();
        count();
        status();
    }

    private static void kinds() {
        Due.sentence("kind: The KIND of a WORD, as told (1 to 5). BAD.");
        WeirWords x = Due.with(FIVE);
        int[] due = {4, 1, 2, 3, 5};
        for (int word = 0; word < 5; word++) {
            Due.is("kind(" + word + ")", x.kind(word), due[word]);
        }
        x.minutes(1);
        Due.is("of one that is gone", x.kind(3), 3);
        int[] none = {-1, 5, 7, Due.LEAST, Due.MOST};
        for (int word : none) {
            Due.is("no word", x.kind(word), Due.BAD);
        }
        Due.is("no river", new WeirWords().kind(0), Due.BAD);
    }

    private static void as() {
        Due.sentence("KINDS: 0 WORD; 1 STICK, a WORD; 2 SHOUT, a STICK; 3 FROTH, a STICK; 4 SALMON, a WORD; 5 EEL, a SALMON.");
        WeirWords x = Due.with("r0,10;c1;c1;c1;c1;s5,3;h5,0;f5,0;m5,0;e5,0;");
        x.minutes(1);
        int[] are = {0b000011, 0b000111, 0b001011, 0b010001, 0b110001};
        for (int word = 0; word < 5; word++) {
            for (int kind = 0; kind <= 5; kind++) {
                boolean is = (are[word] >> kind & 1) == 1;
                Due.is("as(" + word + ", " + kind + ")", x.as(word, kind), is ? word : Due.KIND);
                Due.is("status()", x.status(), is ? 0 : 3);
            }
        }
        Due.sentence("as: of a KIND (0 .. 5): the WORD's number. BAD; KIND: it is no such one.");
        x.as(0, 5);
        int[] kinds = {-1, 6, Due.LEAST, Due.MOST};
        for (int kind : kinds) {
            Due.is("no kind " + kind, x.as(0, kind), Due.BAD);
        }
        int[] words = {-1, 5, 7, Due.LEAST, Due.MOST};
        for (int word : words) {
            Due.is("no word " + word, x.as(word, 0), Due.BAD);
            Due.is("no word " + word, x.as(word, 5), Due.BAD);
        }
        Due.is("no river", new WeirWords().as(0, 0), Due.BAD);
        Due.is("status() stays", x.status(), 3);
    }

    private static void isAsked(WeirWords x, int word, int what, int due, int... trace) {
        String call = "ask(" + word + ", " + what + ")";
        Due.is(call, x.ask(word, what), due);
        for (int i = 0; i < trace.length; i++) {
            Due.is(call + ": trace(" + i + ")", x.trace(i), trace[i]);
        }
        Due.is(call + ": trace beyond its end", x.trace(trace.length), Due.NONE);
    }

    private static void bodies() {
        WeirWords x = Due.with(FIVE);
        Due.sentence("11 of STICKS: what 10 gives, and MARK.");
        isAsked(x, 1, 0, 20 + (1 + 3), 11, 10, 21, 20);
        Due.sentence("else that of the nearest KIND that it is: FROTH has 11 of STICKS; MARK within it is asked anew: 22");
        isAsked(x, 3, 0, 40 + (3 + 5 - 1000), 11, 10, 22, 21, 20);
        Due.sentence("12 of SHOUTS: 0 less what 11 gives. (MARK within it: 24)");
        isAsked(x, 2, 0, -(10 + 2 * (2 + 4)), 12, 11, 10, 24, 21, 20);
        Due.sentence("13 of SALMON: what 10 gives, less 100.");
        isAsked(x, 0, 0, 30 - 100, 13, 10);
        Due.sentence("14 of EELS: twice what 13 gives (asked once).");
        isAsked(x, 4, 0, 2 * (15 - 100), 14, 13, 10);
        Due.sentence("21 of STICKS: what 20 gives, and the CELL");
        isAsked(x, 1, 1, 1 + 3, 21, 20);
        Due.sentence("22 of FROTH: what 21 gives, less 1000.");
        isAsked(x, 3, 1, 3 + 5 - 1000, 22, 21, 20);
        Due.sentence("23 of SALMON: what 20 gives, less SIZE.");
        isAsked(x, 0, 1, 0 - (30 - 100), 23, 20, 13, 10);
        Due.sentence("else that of the nearest KIND that it is: EELS have 23 of SALMON; SIZE within it is asked anew: 14");
        isAsked(x, 4, 1, 4 - 2 * (15 - 100), 23, 20, 14, 13, 10);
        Due.sentence("24 of SHOUTS: twice what 21 gives (asked once).");
        isAsked(x, 2, 1, 2 * (2 + 4), 24, 21, 20);
    }

    private static void whetherGoneOrNot() {
        Due.sentence("the CELL (whether GONE or not)");
        WeirWords x = Due.with("r0,2;c1;c1;c1;c1;c1;s9,4;s1,2;h1,3;f1,2;");
        Due.is("all gone", x.minutes(1), 15);
        isAsked(x, 0, 1, 0 + 4, 21, 20);
        isAsked(x, 1, 1, 1 + 3, 21, 20);
        isAsked(x, 2, 1, 2 * (2 + 4), 24, 21, 20);
        isAsked(x, 3, 1, 3 + 3 - 1000, 22, 21, 20);
        Due.sentence("10 lent to all WORDS: how big (0: GONE)");
        isAsked(x, 0, 0, 0 + 4, 11, 10, 21, 20);
        isAsked(x, 2, 0, -(0 + 12), 12, 11, 10, 24, 21, 20);
    }

    private static void theTrace() {
        Due.sentence("trace: Number i of THE TRACE; NONE.");
        WeirWords x = Due.with(FIVE);
        Due.is("before an ask", x.trace(0), Due.NONE);
        isAsked(x, 2, 0, -22, 12, 11, 10, 24, 21, 20);
        int[] none = {-1, 6, 7, 15, 16, Due.LEAST, Due.MOST};
        for (int i : none) {
            Due.is("trace(" + i + ")", x.trace(i), Due.NONE);
        }
        Due.is("told again", x.trace(5), 20);
        Due.is("no river", new WeirWords().trace(0), Due.NONE);
        Due.sentence("THE TRACE as it begins (the first 16): no ask leaves more than six");
        for (int word = 0; word < 5; word++) {
            for (int what = 0; what <= 1; what++) {
                x.ask(word, what);
                Due.is("the seventh", x.trace(6), Due.NONE);
                Due.is("the sixteenth", x.trace(15), Due.NONE);
                Due.is("the seventeenth", x.trace(16), Due.NONE);
            }
        }
        Due.sentence("THE TRACE is empty ahead of it.");
        isAsked(x, 2, 0, -22, 12, 11, 10, 24, 21, 20);
        isAsked(x, 1, 1, 4, 21, 20);
        for (int i = 2; i < 16; i++) {
            Due.is("trace(" + i + ")", x.trace(i), Due.NONE);
        }
    }

    private static void ask() {
        Due.sentence("ask: An ASK (0, 1) of a WORD. BAD (THE TRACE stays then).");
        WeirWords x = Due.with(FIVE);
        isAsked(x, 0, 0, -70, 13, 10);
        int[] words = {-1, 5, 7, Due.LEAST, Due.MOST};
        for (int word : words) {
            Due.is("no word", x.ask(word, 1), Due.BAD);
        }
        int[] whats = {-1, 2, Due.LEAST, Due.MOST};
        for (int what : whats) {
            Due.is("no ask", x.ask(1, what), Due.BAD);
        }
        Due.is("trace(0)", x.trace(0), 13);
        Due.is("trace(1)", x.trace(1), 10);
        Due.is("trace(2)", x.trace(2), Due.NONE);
        Due.is("no river", new WeirWords().ask(0, 0), Due.BAD);
    }

    private static void count() {
        Due.sentence("count: 0 ROWS, 1 CELLS, 2 WORDS, 3 MINUTE, 4 RAIN, 5 EDGE, 6 the QUARREL, 7 GONE, 8 ACTS, 9 bytes");
        WeirWords x = Due.with(Due.MIXED);
        x.row(0, 0, 0);
        x.row(7, 0, 1);
        Due.feed(x, "r5,");
        x.minutes(2);
        x.rain(6);
        x.speed(0, 2);
        int[] due = {2, 6, 5, 2, 6, 2, 20 + 30 + 25 + 12, 2, 4, 3};
        for (int what = 0; what < due.length; what++) {
            Due.is("count(" + what + ")", x.count(what), due[what]);
        }
        Due.sentence("count: BAD.");
        int[] none = {-1, 10, Due.LEAST, Due.MOST};
        for (int what : none) {
            Due.is("count(" + what + ")", x.count(what), Due.BAD);
            Due.is("no river", new WeirWords().count(what), Due.BAD);
        }
    }

    private static void status() {
        Due.sentence("status: Of the latest call with a ROW, or as() .. the number of its FINDING");
        WeirWords x = Due.with(Due.STILL);
        x.drop(0);
        Due.is("drop: NULL", x.status(), 1);
        x.row(0, 0, -1);
        Due.is("row: SIZE", x.status(), 4);
        x.row(0, 0, 1);
        x.set(0, 1, 0);
        Due.is("set: PLACE", x.status(), 2);
        x.as(0, 5);
        Due.is("as: KIND", x.status(), 3);
        x.row(1, 1, 1);
        x.as(0, 5);
        x.copy(0, 0, 1, 0, 1);
        Due.is("copy: STORE", x.status(), 5);
        x.fits(0, 7, 0, 1, 0);
        Due.is("fits: NULL", x.status(), 1);
        x.fits(0, 0, 1, 1, 0);
        Due.is("fits: PLACE", x.status(), 2);
        statusOfNone(x);
        statusStays(x);
    }

    private static void statusOfNone(WeirWords x) {
        Due.sentence("status: 0: it had none, or there was none.");
        Due.is("none at first", new WeirWords().status(), 0);
        x.drop(7);
        x.row(2, 0, 1);
        Due.is("row", x.status(), 0);
        x.drop(7);
        x.set(2, 0, 5);
        Due.is("set", x.status(), 0);
        x.drop(7);
        x.copy(2, 0, 2, 0, 1);
        Due.is("copy", x.status(), 0);
        x.drop(7);
        x.as(0, 1);
        Due.is("as", x.status(), 0);
        for (int what = 0; what <= 4; what++) {
            x.drop(7);
            x.fits(0, 2, 0, 1, what);
            Due.is("fits", x.status(), 0);
        }
        x.drop(7);
        x.drop(2);
        Due.is("drop", x.status(), 0);
    }

    private static void statusStays(WeirWords x) {
        Due.sentence("status: that was not BAD, STATE, FULL");
        x.as(0, 5);
        x.row(8, 0, 1);
        x.row(0, 0, 41);
        x.set(8, 0, 0);
        x.copy(0, 0, 8, 0, 0);
        x.drop(8);
        x.fits(0, 0, 0, 13, 0);
        x.as(0, 6);
        x.as(1, 0);
        Due.is("BAD", x.status(), 3);
        Due.sentence("status: of calls without a ROW nothing");
        x.minutes(1);
        x.minutes(0);
        x.say(0, 1, 0);
        x.speed(0, 0);
        x.rain(1);
        x.undo();
        x.ahead(0, 1, 0);
        x.ask(0, 0);
        x.trace(0);
        x.count(0);
        x.kind(0);
        x.image(0);
        x.restore(0);
        x.restore(1);
        x.feed('r');
        x.river();
        x.status();
        Due.is("all of these", x.status(), 3);
        Due.read(x, "r0,0;c0;c0;c0;c1;s1,3;");
        x.minutes(1);
        x.fits(0, 0, 0, 1, 0);
        Due.is("STATE", x.status(), 3);
    }
}
