/** Block 1, TEXTS and FAULTS; promises 1, 6 to 8. */
final class EdgesOfTexts {
    private static final String LAW = "r5,2;";
    private static final String FOUR = "c0;c1;c2;c3;";
    private static final String TWELVE = FOUR + FOUR + FOUR;
    private static final String SEVEN = "s1,0;h1,0;f1,0;m1,0;e1,0;s1,0;h1,0;";

    private EdgesOfTexts() {
    }

    static void all() {
        aNewObject();
        theLastCall();
        theTape();
        tokens();
        theLaw();
        cells();
        words();
        inPlaceOfTheOneBefore();
        theFirstToken();
        cannotStandThere();
        isNone();
        theEnd();
        notAsTold();
        noRoom();
        allStays();
        theLatestFault();
    }

    private static void good(String text, int cells, int words) {
        WeirWords x = new WeirWords();
        Due.is("river() of " + text, Due.read(x, text), cells);
        Due.is("words of " + text, x.count(2), words);
        Due.is("fault() of " + text, x.fault(), 0);
    }

    private static void faulty(String text, int place, int number) {
        WeirWords x = new WeirWords();
        Due.is("river() of " + text, Due.read(x, text), -1000100 - place);
        Due.is("fault() of " + text, x.fault(), number);
        Due.is("cells by " + text, x.count(1), 0);
    }

    private static void aNewObject() {
        Due.sentence("WeirWords(): No RIVER.");
        for (int what = 0; what <= 9; what++) {
            Due.is("count(" + what + ")", new WeirWords().count(what), 0);
        }
        WeirWords x = new WeirWords();
        Due.is("minutes(1)", x.minutes(1), Due.STATE);
        Due.is("rain(0)", x.rain(0), Due.STATE);
        Due.is("quarrel(0)", x.quarrel(0), Due.STATE);
        Due.is("kept()", x.kept(), Due.STATE);
        Due.is("calm(1, 0)", x.calm(1, 0), Due.STATE);
        Due.is("swift(1, 0)", x.swift(1, 0), Due.STATE);
        Due.is("drawn(0, 1, 0)", x.drawn(0, 1, 0), Due.STATE);
        Due.is("image(0)", x.image(0), Due.STATE);
        Due.is("restore(0)", x.restore(0), Due.STATE);
        Due.is("undo()", x.undo(), Due.STATE);
        Due.is("word(0, 0)", x.word(0, 0), Due.BAD);
        Due.is("cell(0, 0)", x.cell(0, 0), Due.BAD);
        Due.is("fault()", x.fault(), 0);
        Due.is("status()", x.status(), 0);
        Due.is("trace(0)", x.trace(0), Due.NONE);
    }

    private static void theLastCall() {
        Due.sentence("An object is used for at most 512 calls after it has been made");
        WeirWords x = Due.with(Due.MIXED);
        int calls = Due.MIXED.length() + 1;
        for (; calls < 511; calls++) {
            Due.is("minutes(1)", x.minutes(1) & 2, calls == Due.MIXED.length() + 1 ? 0 : 2);
        }
        Due.is("the 512th", x.count(3), 511 - Due.MIXED.length() - 1);
    }

    private static void theTape() {
        Due.sentence("THE TAPE has at most 110 bytes, that come one by one");
        WeirWords x = new WeirWords();
        for (int i = 1; i <= 110; i++) {
            Due.is("feed", x.feed('c'), i);
            Due.is("bytes on the tape", x.count(9), i);
        }
        Due.is("the 111th", x.feed('c'), Due.FULL);
        Due.is("bytes on the tape", x.count(9), 110);
        Due.sentence("feed: A byte (0 to 255) comes behind the tape: how many it has. BAD; FULL.");
        WeirWords y = new WeirWords();
        Due.is("0", y.feed(0), 1);
        Due.is("255", y.feed(255), 2);
        int[] none = {-1, 256, Due.LEAST, Due.MOST};
        for (int letter : none) {
            Due.is("no byte", y.feed(letter), Due.BAD);
            Due.is("no byte, a full tape", x.feed(letter), Due.BAD);
        }
        Due.is("bytes on the tape", y.count(9), 2);
        Due.sentence("river: The tape, empty then, is read: how many CELLS there are.");
        Due.is("110 letters", x.river(), -1000100);
        Due.is("empty behind a fault", x.count(9), 0);
        Due.is("room again", x.feed('r'), 1);
        Due.feed(x, "1,1;" + FOUR);
        Due.is("a good one", x.river(), 4);
        Due.is("empty behind a good one", x.count(9), 0);
        Due.is("an empty one", x.river(), -1000100);
        Due.is("the river stays", x.count(1), 4);
        Due.sentence("the longest text there can be, of 104 bytes");
        good("r15,10;" + "c03;".repeat(12) + "e60,11;".repeat(7), 12, 7);
    }

    private static void tokens() {
        Due.sentence("TOKENS: letters a to z (each by itself)");
        faulty("rr", 1, 1);
        faulty("rc", 1, 1);
        faulty(LAW + FOUR + "sh", 18, 1);
        faulty("R5,2;", 0, 1);
        faulty(LAW + "C", 5, 1);
        faulty(LAW + FOUR + "S1,0;", 17, 1);
        Due.sentence("NUMBERS (figures, 2 at most)");
        good("r00,00;c00;c01;c02;c03;s01,00;s09,03;", 4, 2);
        faulty("r/", 1, 1);
        faulty("r:", 1, 1);
        faulty("r5/", 2, 1);
        faulty("r5:", 2, 1);
        faulty("r-1", 1, 1);
        Due.sentence("SIGNS , and ;");
        faulty("r5.2;", 2, 1);
        faulty("r5-2;", 2, 1);
        faulty("r5+", 2, 1);
        faulty("r5,2:", 4, 1);
        faulty("r5,2<", 4, 1);
        Due.sentence("nothing else, no blanks.");
        faulty(" " + LAW, 0, 1);
        faulty("r 5,2;", 1, 1);
        faulty("r5 ,2;", 2, 1);
        faulty("r5, 2;", 3, 1);
        faulty("r5,2 ;", 4, 1);
        faulty("r5,2; " + FOUR, 5, 1);
        faulty(LAW + "c 1;", 6, 1);
        faulty(LAW + "c1 ;", 7, 1);
        faulty(LAW + FOUR + "\n", 17, 1);
        faulty(LAW + FOUR + "\t", 17, 1);
        faulty(LAW + FOUR + (char) 0, 17, 1);
        faulty(LAW + FOUR + SEVEN + " ", 52, 1);
    }

    private static void theLaw() {
        Due.sentence("law: r RAIN , EDGE ; (0 to 15: ..; 0 to 10)");
        int[][] laws = {{0, 0}, {15, 10}, {0, 10}, {15, 0}, {8, 5}};
        for (int[] law : laws) {
            WeirWords x = Due.with("r" + law[0] + "," + law[1] + ";" + FOUR);
            Due.is("RAIN", x.count(4), law[0]);
            Due.is("EDGE", x.count(5), law[1]);
        }
        faulty("r16,2;" + FOUR, 1, 2);
        faulty("r5,11;" + FOUR, 3, 2);
        Due.sentence("bits of MINUTES by 4 left over with rain");
        for (int bit = 0; bit < 4; bit++) {
            WeirWords x = Due.with("r" + (1 << bit) + ",0;c1;c1;c1;c1;");
            for (int minute = 0; minute < 9; minute++) {
                Due.is("RAIN " + (1 << bit) + ", MINUTE " + minute, x.cell(0, 1), minute % 4 == bit ? 2 : 1);
                x.minutes(1);
            }
        }
    }

    private static void cells() {
        Due.sentence("cell: c SPEED ; (0 to 3");
        WeirWords x = Due.with(LAW + FOUR);
        for (int cell = 0; cell < 4; cell++) {
            Due.is("SPEED", x.cell(cell, 0), cell);
        }
        faulty(LAW + "c4;", 6, 2);
        faulty(LAW + FOUR + "c4;", 18, 2);
        Due.sentence("CELLS 0 .. 11");
        WeirWords y = Due.with(LAW + TWELVE);
        Due.is("cell 11", y.cell(11, 0), 3);
        Due.is("cell 12", y.cell(12, 0), Due.BAD);
        Due.is("cell 4 of 4", x.cell(4, 0), Due.BAD);
        Due.sentence("4 to 12");
        faulty(LAW, 5, 1);
        faulty(LAW + "c0;c0;c0;", 14, 1);
        faulty(LAW + "c0;c0;c0;s1,0;", 14, 1);
        for (int cells = 4; cells <= 12; cells++) {
            good(LAW + "c2;".repeat(cells), cells, 0);
            good(LAW + "c2;".repeat(cells) + "s1," + (cells - 1) + ";", cells, 1);
        }
        faulty(LAW + "c2;".repeat(13), 41, 3);
        Due.sentence("0 uppermost");
        Due.goes("r0,10;c1;c1;c1;c1;s5,0;", 5, 1);
        Due.goes("r0,10;c1;c1;c1;c1;m5,3;", 5, 2);
    }

    private static void words() {
        Due.sentence("word: SORT SIZE , CELL ; (SORT: s a stick, h a shout, f froth, m a salmon, e an eel");
        WeirWords x = Due.with(LAW + FOUR + "s1,0;h2,1;f3,2;m4,3;e5,0;");
        for (int word = 0; word < 5; word++) {
            Due.is("kind", x.kind(word), word + 1);
            Due.where("as told", x, word, word + 1, word % 4);
        }
        for (char letter = 'a'; letter <= 'z'; letter++) {
            if ("shfmec".indexOf(letter) < 0) {
                faulty(LAW + FOUR + letter + "1,0;", 17, 1);
            }
        }
        Due.sentence("1 to 60");
        faulty(LAW + FOUR + "s0,0;", 18, 2);
        faulty(LAW + FOUR + "s00,0;", 18, 2);
        good(LAW + FOUR + "s1,0;s60,0;", 4, 2);
        faulty(LAW + FOUR + "s61,0;", 18, 2);
        faulty(LAW + FOUR + "s99,0;", 18, 2);
        Due.sentence("a CELL");
        good(LAW + FOUR + "s1,3;", 4, 1);
        faulty(LAW + FOUR + "s1,4;", 20, 2);
        good(LAW + TWELVE + "s1,11;", 12, 1);
        faulty(LAW + TWELVE + "s1,12;", 44, 2);
        faulty(LAW + FOUR + "s1,99;", 20, 2);
        Due.sentence("WORDS 0 .. 6, 7 at most");
        good(LAW + FOUR, 4, 0);
        good(LAW + FOUR + SEVEN, 4, 7);
        WeirWords y = Due.with(LAW + FOUR + SEVEN);
        Due.is("word 6", y.word(6, 0), 1);
        Due.is("word 7", y.word(7, 0), Due.BAD);
        faulty(LAW + FOUR + SEVEN + "s1,0;", 52, 3);
    }

    private static void inPlaceOfTheOneBefore() {
        WeirWords x = Due.with(Due.MIXED);
        x.image(1);
        Due.fill(x, 0, 4, 7);
        x.minutes(3);
        x.rain(9);
        x.speed(0, 3);
        Due.read(x, "r3,1;c1;c0;c2;c0;h7,3;");
        Due.sentence("A RIVER that is read stands in place of the one before");
        Due.is("cells", x.count(1), 4);
        Due.is("words", x.count(2), 1);
        Due.is("rain", x.count(4), 3);
        Due.is("edge", x.count(5), 1);
        Due.is("speed", x.cell(0, 0), 1);
        Due.is("no cell of before", x.cell(4, 0), Due.BAD);
        Due.is("no word of before", x.word(1, 0), Due.BAD);
        Due.is("the quarrel", x.count(6), 7);
        Due.where("its word", x, 0, 7, 3);
        Due.is("its kind", x.kind(0), 2);
        Due.sentence("(none at first)");
        Due.is("cells", new WeirWords().count(1), 0);
        Due.sentence("MINUTE 0");
        Due.is("minute", x.count(3), 0);
        Due.sentence("no WORD is GONE");
        Due.is("gone", x.count(7), 0);
        Due.is("word 0", x.word(0, 2), 0);
        Due.sentence("no ACT can be undone");
        Due.is("acts", x.count(8), 0);
        Due.is("undo()", x.undo(), Due.STATE);
        x.minutes(1);
        Due.is("one of its own", x.undo(), 0);
        Due.is("no more", x.undo(), Due.STATE);
        Due.is("cells", x.count(1), 4);
        Due.sentence("IMAGES and ROWS stay.");
        Due.is("rows", x.count(0), 1);
        Due.is("no image 0 yet", x.restore(0), Due.STATE);
        Due.is("image 1", x.restore(1), 1);
        Due.is("cells", x.count(1), 6);
        Due.read(x, Due.STILL);
        Due.items("row 0", x, 0, 4, 7);
    }

    private static void theFirstToken() {
        Due.sentence("FAULTS, the first TOKEN that has one (its first byte)");
        faulty("r16,11;c4;", 1, 2);
        faulty("r15,99,", 4, 2);
        faulty(LAW + "c9.", 6, 2);
        faulty(LAW + "c1,c9;", 7, 1);
        faulty(LAW + FOUR + "s61,99;", 18, 2);
        faulty(LAW + FOUR + "s60,99;", 21, 2);
        faulty(LAW + TWELVE + "c9;", 41, 3);
        Due.sentence("of one TOKEN the least");
        // As none it is 1, as a number that is not as told it would be 2.
        faulty("r160,2;", 1, 1);
        faulty("r5,111;", 3, 1);
        faulty(LAW + "c444;", 6, 1);
        faulty(LAW + FOUR + "s610,0;", 18, 1);
        faulty(LAW + FOUR + "s1,444;", 20, 1);
        // As one that cannot stand there it is 1, as a cell more than there is room for it would be 3.
        faulty(LAW + TWELVE + "s1,0;c1;", 46, 1);
        faulty(LAW + TWELVE + SEVEN + "c1;", 76, 1);
    }

    private static void cannotStandThere() {
        Due.sentence("1 it cannot stand there");
        Due.sentence("- at the beginning, but r");
        faulty(FOUR, 0, 1);
        faulty("s1,0;", 0, 1);
        faulty("5,2;", 0, 1);
        faulty(",", 0, 1);
        faulty(";", 0, 1);
        Due.sentence("- behind r, behind RAIN, behind the sign, behind EDGE");
        faulty("r,2;", 1, 1);
        faulty("r;", 1, 1);
        faulty("r5;", 2, 1);
        faulty("r5c", 2, 1);
        faulty("r5,;", 3, 1);
        faulty("r5,,", 3, 1);
        faulty("r5,r", 3, 1);
        faulty("r5,2,", 4, 1);
        faulty("r5,2c", 4, 1);
        Due.sentence("- behind the law and fewer than 4 cells, but c");
        faulty(LAW + "r", 5, 1);
        faulty(LAW + "5", 5, 1);
        faulty(LAW + ";", 5, 1);
        faulty(LAW + "s1,0;", 5, 1);
        faulty(LAW + "c0;c0;c0;m1,0;", 14, 1);
        Due.sentence("- in a cell");
        faulty(LAW + "c;", 6, 1);
        faulty(LAW + "cc", 6, 1);
        faulty(LAW + "c1,", 7, 1);
        faulty(LAW + "c1c", 7, 1);
        faulty(LAW + FOUR + "c;", 18, 1);
        faulty(LAW + FOUR + "c1,", 19, 1);
        Due.sentence("- behind 4 cells, but c or a word");
        faulty(LAW + FOUR + "r", 17, 1);
        faulty(LAW + FOUR + "1", 17, 1);
        faulty(LAW + FOUR + ",", 17, 1);
        faulty(LAW + FOUR + ";", 17, 1);
        faulty(LAW + TWELVE + "r", 41, 1);
        Due.sentence("- in a word");
        faulty(LAW + FOUR + "s,0;", 18, 1);
        faulty(LAW + FOUR + "s;", 18, 1);
        faulty(LAW + FOUR + "s1;", 19, 1);
        faulty(LAW + FOUR + "s1s", 19, 1);
        faulty(LAW + FOUR + "s1,;", 20, 1);
        faulty(LAW + FOUR + "s1,s", 20, 1);
        faulty(LAW + FOUR + "s1,0,", 21, 1);
        faulty(LAW + FOUR + "s1,0s", 21, 1);
        Due.sentence("- behind a word, but a word");
        faulty(LAW + FOUR + "s1,0;c1;", 22, 1);
        faulty(LAW + FOUR + "s1,0;r", 22, 1);
        faulty(LAW + FOUR + "s1,0;;", 22, 1);
        faulty(LAW + FOUR + "s1,0;1", 22, 1);
        faulty(LAW + FOUR + SEVEN + "c", 52, 1);
        faulty(LAW + FOUR + SEVEN + "r", 52, 1);
        faulty(LAW + FOUR + SEVEN + ";", 52, 1);
        faulty(LAW + FOUR + SEVEN + "1", 52, 1);
    }

    private static void isNone() {
        Due.sentence("or is none");
        int[] none = {0, 1, 9, 10, 31, ' ', '!', '+', '-', '.', '/', ':', '<', '@', 'A', 'Z', '[', '`', '{', '~', 127,
            128, 'r' + 128, 233, 255};
        for (int letter : none) {
            faulty("" + (char) letter, 0, 1);
            faulty("r" + (char) letter, 1, 1);
            faulty("r5" + (char) letter, 2, 1);
            faulty(LAW + (char) letter, 5, 1);
            faulty(LAW + FOUR + (char) letter, 17, 1);
            faulty(LAW + FOUR + SEVEN + (char) letter, 52, 1);
        }
        Due.sentence("(a run of three figures or more, at its first");
        faulty("000", 0, 1);
        faulty("r000,0;", 1, 1);
        faulty("r100,0;", 1, 1);
        faulty("r0000000000000005,0;", 1, 1);
        faulty("r99999999999999999999", 1, 1);
        faulty("r5,002;", 3, 1);
        faulty(LAW + "c001;", 6, 1);
        faulty(LAW + FOUR + "s001,0;", 18, 1);
        faulty(LAW + FOUR + "s1,000;", 20, 1);
        faulty(LAW + FOUR + "123", 17, 1);
        faulty("r" + "0".repeat(109), 1, 1);
    }

    private static void theEnd() {
        Due.sentence("the end: how many bytes there are)");
        String text = "r15,10;c0;c1;c2;c3;c01;s60,3;e1,0;";
        for (int bytes = 0; bytes <= text.length(); bytes++) {
            String part = text.substring(0, bytes);
            if (bytes == 19 || bytes == 23 || bytes == 29 || bytes == 34) {
                good(part, bytes == 19 ? 4 : 5, bytes < 29 ? 0 : bytes < 34 ? 1 : 2);
            } else {
                faulty(part, bytes, 1);
            }
        }
    }

    private static void notAsTold() {
        Due.sentence("2 a NUMBER that is not as told");
        faulty("r16", 1, 2);
        faulty("r99", 1, 2);
        faulty("r0,11", 3, 2);
        faulty("r15,11;", 4, 2);
        faulty(LAW + "c4", 6, 2);
        faulty(LAW + "c04", 6, 2);
        faulty(LAW + "c10", 6, 2);
        faulty(LAW + FOUR + "e0", 18, 2);
        faulty(LAW + FOUR + "e61", 18, 2);
        faulty(LAW + FOUR + "e1,4", 20, 2);
        faulty(LAW + FOUR + "e60,04", 21, 2);
        faulty(LAW + FOUR + "c0;e1,5;", 23, 2);
        good(LAW + FOUR + "c0;e1,4;", 5, 1);
    }

    private static void noRoom() {
        Due.sentence("3 a cell, a word more than there is room for (its letter)");
        faulty(LAW + TWELVE + "c", 41, 3);
        faulty(LAW + TWELVE + "c1;", 41, 3);
        faulty(LAW + TWELVE + "c,", 41, 3);
        String[] letters = {"s", "h", "f", "m", "e"};
        for (String letter : letters) {
            faulty(LAW + FOUR + SEVEN + letter, 52, 3);
            faulty(LAW + FOUR + SEVEN + letter + "0,9;", 52, 3);
            faulty(LAW + TWELVE + SEVEN + letter + "1,1;", 76, 3);
        }
    }

    private static void allStays() {
        Due.sentence("-1000100 less the place of a FAULT: all stays, but the tape is empty then");
        WeirWords x = Due.with(Due.MIXED);
        Due.fill(x, 2, 1, 2, 3);
        x.image(0);
        x.minutes(2);
        x.rain(7);
        x.ask(3, 0);
        x.drop(7);
        Due.is("a fault behind all of another river", Due.read(x, "r1,1;c3;c3;c3;c3;s1,0;s"), -1000123);
        int[] due = {1, 6, 5, 2, 7, 2, 20 + 30 + 25 + 12, 2, 3, 0};
        for (int what = 0; what < due.length; what++) {
            Due.is("count(" + what + ")", x.count(what), due[what]);
        }
        Due.where("a word", x, 0, 20, 3);
        Due.is("kind", x.kind(4), 5);
        Due.is("speed", x.cell(0, 0), 1);
        Due.is("trace", x.trace(0), 13);
        Due.is("status()", x.status(), 1);
        Due.is("undo()", x.undo(), 2);
        Due.is("rain", x.count(4), 5);
        Due.is("drop(2)", x.drop(2), 3);
        Due.is("restore(0)", x.restore(0), 1);
        Due.is("minute", x.count(3), 0);
    }

    private static void theLatestFault() {
        Due.sentence("fault: The number of the latest FAULT; 0 before one.");
        WeirWords x = new WeirWords();
        Due.is("before one", x.fault(), 0);
        Due.read(x, LAW + FOUR);
        Due.is("a good text is none", x.fault(), 0);
        Due.read(x, "r16");
        Due.is("2", x.fault(), 2);
        Due.is("told again", x.fault(), 2);
        Due.read(x, LAW + FOUR);
        Due.is("the latest yet", x.fault(), 2);
        Due.read(x, LAW + TWELVE + "c");
        Due.is("3", x.fault(), 3);
        Due.read(x, "");
        Due.is("1", x.fault(), 1);
        x.feed(256);
        x.minutes(0);
        Due.is("no fault of a text", x.fault(), 1);
    }
}
