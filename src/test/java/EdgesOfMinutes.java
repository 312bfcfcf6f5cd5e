/** Block 2, a MINUTE; promises 9, 14, 15. */
final class EdgesOfMinutes {
    private EdgesOfMinutes() {
    }

    static void all() {
        asItBegins();
        pace();
        stick();
        shout();
        froth();
        salmon();
        eel();
        half();
        upOverTheEdge();
        gone();
        oneMore();
        minutes();
        word();
        cell();
    }

    private static void asItBegins() {
        Due.sentence("(MINUTES are even, have rain by MINUTE as it begins.)");
        // Rain in minute 1 alone: one cell by minute 0, two by minute 1.
        WeirWords x = Due.with("r2,10;c1;c1;c1;c1;c1;c1;s5,0;e5,5;");
        x.minutes(1);
        Due.where("minute 0 is even, without rain", x, 0, 5, 1);
        Due.where("minute 0 is even, without rain", x, 1, 5, 3);
        x.minutes(1);
        Due.where("minute 1 is not, has rain", x, 0, 5, 3);
        Due.where("minute 1 is not, has rain", x, 1, 5, 2);
        x.minutes(1);
        Due.where("minute 2", x, 0, 5, 4);
        Due.where("minute 2", x, 1, 5, 0);
    }

    private static void pace() {
        Due.sentence("PACE of a CELL is SPEED, and 1 in MINUTES with rain, if SPEED is above 0.");
        WeirWords dry = Due.with("r14,10;c0;c1;c2;c3;c0;c0;c0;c0;s9,0;s9,1;s9,2;s9,3;");
        WeirWords wet = Due.with("r1,10;c0;c1;c2;c3;c0;c0;c0;c0;s9,0;s9,1;s9,2;s9,3;");
        int[] byRain = {0, 2, 3, 4};
        for (int cell = 0; cell < 4; cell++) {
            Due.is("dry " + cell, dry.cell(cell, 1), cell);
            Due.is("wet " + cell, wet.cell(cell, 1), byRain[cell]);
        }
        dry.minutes(1);
        wet.minutes(1);
        for (int word = 0; word < 4; word++) {
            Due.where("dry", dry, word, 9, word + word);
            Due.where("wet", wet, word, 9, word + byRain[word]);
        }
    }

    private static void stick() {
        Due.sentence("a stick so many CELLS down as PACE of its CELL");
        Due.goes("r0,10;c0;c3;c3;c3;c3;s7,0;", 7, 0);
        Due.goes("r0,10;c1;c3;c3;c3;c3;s7,0;", 7, 1);
        Due.goes("r1,10;c3;c0;c0;c0;c0;s7,0;", 7, 4);
    }

    private static void shout() {
        Due.sentence("a shout as a stick, then its SIZE is 1 less (0 at least)");
        Due.goes("r0,10;c2;c0;c0;c0;h7,0;", 6, 2);
        Due.goes("r0,10;c0;c0;c0;c0;h2,0;", 1, 0);
        Due.goes("r0,10;c0;c0;c0;c0;h1,0;", 0, 0);
        // By the edge its size is 0 ahead of being 1 less.
        Due.goes("r0,0;c1;c0;c0;c0;h1,0;", 0, 1);
        WeirWords x = Due.with("r0,0;c1;c0;c0;c0;h1,0;");
        x.minutes(2);
        Due.is("size", x.word(0, 0), 0);
        Due.is("quarrel", x.count(6), 0);
    }

    private static void froth() {
        Due.sentence("froth one CELL fewer than a stick would, but if that would go at all, one at least");
        Due.goes("r0,10;c0;c1;c1;c1;c1;f7,0;", 7, 0);
        Due.goes("r15,10;c0;c1;c1;c1;c1;f7,0;", 7, 0);
        Due.goes("r0,10;c1;c1;c1;c1;c1;f7,0;", 7, 1);
        Due.goes("r1,10;c1;c1;c1;c1;c1;f7,0;", 7, 1);
        Due.goes("r0,10;c2;c1;c1;c1;c1;f7,0;", 7, 1);
        Due.goes("r0,10;c3;c1;c1;c1;c1;f7,0;", 7, 2);
        Due.goes("r1,10;c3;c1;c1;c1;c1;f7,0;", 7, 3);
    }

    private static void salmon() {
        Due.sentence("a salmon one CELL up, if PACE of its CELL is 2 or less (else it stays)");
        Due.goes("r0,10;c3;c3;c3;c0;m7,3;", 7, 2);
        Due.goes("r0,10;c3;c3;c3;c1;m7,3;", 7, 2);
        Due.goes("r0,10;c3;c3;c3;c2;m7,3;", 7, 2);
        Due.goes("r0,10;c0;c0;c0;c3;m7,3;", 7, 3);
        Due.goes("r1,10;c0;c0;c0;c0;m7,3;", 7, 2);
        Due.goes("r1,10;c0;c0;c0;c1;m7,3;", 7, 2);
        Due.goes("r1,10;c0;c0;c0;c2;m7,3;", 7, 3);
        Due.goes("r1,10;c0;c0;c0;c3;m7,3;", 7, 3);
        Due.sentence("but in CELL 0 it stays");
        Due.goes("r0,10;c0;c0;c0;c0;m7,0;", 7, 0);
        Due.goes("r0,0;c1;c0;c0;c0;m60,0;", 60, 0);
        Due.goes("r0,10;c0;c0;c0;c0;m7,1;", 7, 0);
    }

    private static void eel() {
        Due.sentence("an eel as a salmon, but in MINUTES that are even two CELLS");
        WeirWords x = Due.with("r0,10;c0;c0;c0;c0;c0;c0;c0;e7,6;");
        int[] cells = {4, 3, 1, 0, 0};
        for (int minute = 0; minute < cells.length; minute++) {
            x.minutes(1);
            Due.where("behind minute " + minute, x, 0, 7, cells[minute]);
        }
        Due.goes("r0,10;c0;c0;c0;c0;e7,1;", 7, 0);
        Due.goes("r0,10;c0;c0;c0;c0;e7,0;", 7, 0);
        Due.sentence("(each step by PACE of the CELL in which it is then).");
        Due.goes("r0,10;c0;c3;c0;c0;e7,2;", 7, 1);
        Due.goes("r0,10;c0;c0;c3;c0;e7,2;", 7, 2);
        Due.goes("r0,10;c3;c2;c2;c0;e7,2;", 7, 0);
        Due.goes("r1,10;c0;c2;c1;c0;e7,2;", 7, 1);
        Due.goes("r1,10;c0;c1;c1;c0;e7,2;", 7, 0);
    }

    private static void half() {
        Due.sentence("One that comes from EDGE or above it (a lesser CELL, or EDGE) to below it (a greater one) .. half");
        Due.goes("r0,2;c3;c3;c1;c3;c3;s8,2;", 4, 3);
        Due.goes("r0,2;c3;c2;c1;c3;c3;s8,1;", 4, 3);
        Due.goes("r0,2;c3;c2;c1;c3;c3;s8,0;", 4, 3);
        Due.goes("r0,2;c2;c2;c1;c3;c3;s8,0;", 8, 2);
        Due.goes("r0,2;c1;c1;c1;c3;c3;s8,1;", 8, 2);
        Due.goes("r0,2;c1;c1;c0;c3;c3;s8,2;", 8, 2);
        Due.goes("r0,2;c1;c1;c1;c1;c3;s8,3;", 8, 4);
        Due.goes("r0,0;c1;c1;c1;c1;s8,0;", 4, 1);
        Due.goes("r0,0;c1;c1;c1;c1;s8,1;", 8, 2);
        Due.goes("r0,2;c3;c3;c2;c3;c3;f8,2;", 4, 3);
        Due.goes("r0,2;c3;c3;c1;c3;c3;f8,0;", 8, 2);
        Due.goes("r0,10;c1;c1;c1;c1;s8,2;", 8, 3);
        Due.goes("r0,10;c1;c1;c1;c1;c1;c1;c1;c1;c1;c1;c1;c1;s8,10;", 4, 11);
        WeirWords x = Due.with("r0,1;c1;c1;c1;c1;c1;s9,0;");
        x.minutes(4);
        Due.where("but once", x, 0, 4, 4);
        Due.sentence("(cut)");
        Due.goes("r0,2;c1;c1;c1;c1;s9,2;", 4, 3);
        Due.goes("r0,2;c1;c1;c1;c1;s59,2;", 29, 3);
        Due.goes("r0,2;c1;c1;c1;c1;s60,2;", 30, 3);
        Due.goes("r0,2;c1;c1;c1;c1;s3,2;", 1, 3);
        Due.sentence("(a shout's before it is 1 less)");
        Due.goes("r0,2;c1;c1;c1;c1;h9,2;", 3, 3);
        Due.goes("r0,2;c1;c1;c1;c1;h8,2;", 3, 3);
        Due.goes("r0,2;c1;c1;c1;c1;h4,2;", 1, 3);
    }

    private static void upOverTheEdge() {
        Due.sentence("a salmon, an eel .. from below it to EDGE or above .. just if SIZE is 20 or more, else it stays below");
        Due.goes("r0,2;c0;c0;c0;c0;c0;m20,3;", 20, 2);
        Due.goes("r0,2;c0;c0;c0;c0;c0;m21,3;", 21, 2);
        Due.goes("r0,2;c0;c0;c0;c0;c0;m19,3;", 19, 3);
        Due.goes("r0,2;c0;c0;c0;c0;c0;m1,3;", 1, 3);
        Due.goes("r0,2;c0;c0;c0;c0;c0;m19,4;", 19, 3);
        Due.goes("r0,2;c0;c0;c0;c0;c0;m19,2;", 19, 1);
        Due.goes("r0,2;c0;c0;c0;c0;c0;m1,1;", 1, 0);
        Due.goes("r0,0;c0;c0;c0;c0;c0;m19,1;", 19, 1);
        Due.goes("r0,0;c0;c0;c0;c0;c0;m20,1;", 20, 0);
        Due.goes("r0,2;c0;c0;c0;c3;c0;m20,3;", 20, 3);
        Due.goes("r0,10;c0;c0;c0;c0;c0;c0;c0;c0;c0;c0;c0;c0;m19,11;", 19, 11);
        Due.goes("r0,10;c0;c0;c0;c0;c0;c0;c0;c0;c0;c0;c0;c0;m20,11;", 20, 10);
        WeirWords x = Due.with("r0,2;c0;c0;c0;c0;c0;m19,3;");
        x.minutes(3);
        Due.where("it stays on", x, 0, 19, 3);
        x.say(0, 20, 3);
        x.minutes(1);
        Due.where("until it is big", x, 0, 20, 2);
        Due.sentence("(an eel's steps end there)");
        Due.goes("r0,2;c0;c0;c0;c0;c0;e19,4;", 19, 3);
        Due.goes("r0,2;c0;c0;c0;c0;c0;e19,3;", 19, 3);
        Due.goes("r0,2;c0;c0;c0;c0;c0;e20,3;", 20, 1);
        Due.goes("r0,2;c0;c0;c0;c0;c0;e20,4;", 20, 2);
        Due.goes("r0,2;c0;c0;c0;c0;c0;e19,2;", 19, 0);
        Due.goes("r0,2;c0;c0;c3;c0;c0;e20,3;", 20, 2);
        Due.goes("r0,2;c0;c0;c0;c3;c0;e20,4;", 20, 3);
    }

    private static void gone() {
        Due.sentence("One whose SIZE is 0 .. is GONE (.. its CELL that to which it went");
        Due.goes("r0,2;c3;c1;c1;c1;s1,2;", 0, 3);
        Due.goes("r0,2;c3;c1;c1;c1;s1,0;", 0, 3);
        Due.goes("r0,2;c3;c1;c1;c1;f1,2;", 0, 3);
        Due.goes("r0,2;c3;c1;c1;c1;h2,2;", 0, 3);
        Due.goes("r0,2;c3;c1;c1;c1;h3,2;", 0, 3);
        Due.goes("r0,3;c3;c1;c1;c1;h1,0;", 0, 3);
        WeirWords x = Due.with("r0,2;c3;c1;c1;c1;s1,2;");
        Due.is("gone", x.minutes(1), 1);
        Due.is("where it is", x.word(0, 1), Due.NONE);
        Due.is("is it gone", x.word(0, 2), 1);
        Due.is("in its cell", x.cell(3, 2), 0);
        x.minutes(24);
        Due.where("it goes no more", x, 0, 0, 3);
        Due.sentence("or that comes beyond the last CELL, is GONE (its SIZE is 0 then; .. the one from which it went");
        Due.goes("r0,10;c3;c1;c1;c1;s9,0;", 9, 3);
        Due.goes("r1,10;c3;c1;c1;c1;s9,0;", 0, 0);
        Due.goes("r0,10;c1;c1;c1;c1;s9,3;", 0, 3);
        Due.goes("r0,10;c1;c1;c2;c1;s9,2;", 0, 2);
        Due.goes("r0,10;c1;c1;c1;c2;f9,3;", 0, 3);
        Due.goes("r0,10;c1;c1;c2;c2;f9,2;", 9, 3);
        Due.goes("r0,2;c1;c1;c3;c2;s60,2;", 0, 2);
        Due.goes("r0,10;c1;c1;c3;c2;h60,2;", 0, 2);
        Due.goes("r0,10;c1;c1;c3;c2;h1,2;", 0, 2);
        Due.goes("r0,2;c1;c1;c3;c2;h1,2;", 0, 2);
        Due.goes("r0,10;c0;c0;c0;c0;c0;c0;c0;c0;c0;c0;c0;c1;s9,11;", 0, 11);
        Due.goes("r0,10;c0;c0;c0;c0;c0;c0;c0;c0;c0;c0;c1;c1;s9,10;", 4, 11);
    }

    private static void oneMore() {
        Due.sentence("MINUTE is 1 more.");
        WeirWords x = Due.with("r0,2;c3;c1;c1;c1;s1,3;");
        Due.is("at first", x.count(3), 0);
        x.minutes(1);
        Due.is("behind one", x.count(3), 1);
        x.minutes(24);
        Due.is("behind 24 more, all gone", x.count(3), 25);
    }

    private static void minutes() {
        Due.sentence("minutes: n MINUTES (1 to 24), an ACT each: WORDS (bits) that are GONE then.");
        WeirWords x = Due.with("r0,10;c1;c1;c1;c1;s9,3;s9,0;s9,2;m9,0;");
        Due.is("the last of them", x.minutes(1), 1);
        Due.is("acts", x.count(8), 1);
        Due.is("another", x.minutes(1), 1 + 4);
        Due.is("two more", x.minutes(2), 1 + 2 + 4);
        Due.is("acts", x.count(8), 4);
        Due.is("24", x.minutes(24), 1 + 2 + 4);
        Due.is("minute", x.count(3), 28);
        Due.is("no words", Due.with(Due.NO_WORDS).minutes(24), 0);
        WeirWords all = Due.with("r0,10;c1;c1;c1;c1;s9,3;s9,3;s9,3;s9,3;s9,3;s9,3;s9,3;");
        Due.is("all seven", all.minutes(1), 127);
        Due.sentence("minutes: BAD; STATE: no RIVER (ahead of BAD)");
        int[] none = {0, 25, -1, Due.LEAST, Due.MOST};
        for (int n : none) {
            Due.is("minutes(" + n + ")", x.minutes(n), Due.BAD);
            Due.is("no river", new WeirWords().minutes(n), Due.STATE);
        }
        Due.is("no river", new WeirWords().minutes(1), Due.STATE);
        Due.is("minute", x.count(3), 28);
        Due.sentence("minutes: FULL: beyond MINUTE 9999.");
        for (int i = 0; i < 415; i++) {
            x.minutes(24);
        }
        Due.is("minute", x.count(3), 9988);
        Due.is("12 to 10000", x.minutes(12), Due.FULL);
        Due.is("24", x.minutes(24), Due.FULL);
        Due.is("BAD ahead of FULL", x.minutes(25), Due.BAD);
        Due.is("none of them passed", x.count(3), 9988);
        Due.is("acts", x.count(8), 24);
        Due.is("11 to 9999", x.minutes(11), 1 + 2 + 4);
        Due.is("minute", x.count(3), 9999);
        Due.is("1 to 10000", x.minutes(1), Due.FULL);
        Due.is("status()", x.status(), 0);
        Due.is("one undone", x.undo(), 23);
        Due.is("1 to 9999", x.minutes(1), 1 + 2 + 4);
        Due.is("foretold beyond 9999", x.quarrel(60), 9);
    }

    private static void word() {
        Due.sentence("word: 0 how big (0: GONE), 1 the CELL (NONE: GONE), 2 whether GONE (1, 0), 3 its CELL, whether GONE or not.");
        WeirWords x = Due.with("r0,10;c1;c1;c1;c1;s9,3;s9,0;");
        x.minutes(1);
        int[][] due = {{0, Due.NONE, 1, 3}, {9, 1, 0, 1}};
        for (int word = 0; word < 2; word++) {
            for (int what = 0; what < 4; what++) {
                Due.is("word(" + word + ", " + what + ")", x.word(word, what), due[word][what]);
            }
        }
        Due.sentence("word: BAD.");
        int[] none = {-1, 2, 7, Due.LEAST, Due.MOST};
        for (int word : none) {
            Due.is("no word", x.word(word, 0), Due.BAD);
        }
        int[] whats = {-1, 4, Due.LEAST, Due.MOST};
        for (int what : whats) {
            Due.is("no what", x.word(0, what), Due.BAD);
        }
        Due.is("no river", new WeirWords().word(0, 0), Due.BAD);
    }

    private static void cell() {
        Due.sentence("cell: 0 SPEED, 1 PACE in this MINUTE, 2 WORDS (bits) in it (none that is GONE).");
        WeirWords x = Due.with("r2,10;c1;c0;c1;c3;s9,3;s9,0;m5,1;m5,1;");
        Due.is("speed", x.cell(3, 0), 3);
        Due.is("pace in minute 0", x.cell(3, 1), 3);
        Due.is("words in 1", x.cell(1, 2), 4 + 8);
        Due.is("words in 2", x.cell(2, 2), 0);
        Due.is("words in 3", x.cell(3, 2), 1);
        x.minutes(1);
        Due.is("pace in minute 1", x.cell(3, 1), 4);
        Due.is("pace of 1 in minute 1", x.cell(1, 1), 0);
        Due.is("words in 0", x.cell(0, 2), 4 + 8);
        Due.is("words in 1", x.cell(1, 2), 2);
        Due.is("none that is gone", x.cell(3, 2), 0);
        Due.is("its cell is 3 yet", x.word(0, 3), 3);
        WeirWords all = Due.with("r0,10;c1;c1;c1;c1;s9,3;s9,3;s9,3;s9,3;s9,3;s9,3;s9,3;");
        Due.is("all seven", all.cell(3, 2), 127);
        Due.sentence("cell: BAD.");
        int[] none = {-1, 4, 12, Due.LEAST, Due.MOST};
        for (int cell : none) {
            Due.is("no cell", x.cell(cell, 0), Due.BAD);
        }
        int[] whats = {-1, 3, Due.LEAST, Due.MOST};
        for (int what : whats) {
            Due.is("no what", x.cell(0, what), Due.BAD);
        }
        Due.is("no river", new WeirWords().cell(0, 0), Due.BAD);
    }
}
