/** Block 2, ACTS; promises 10 to 13, 27, 28. */
final class EdgesOfActs {
    private EdgesOfActs() {
    }

    static void all() {
        ofMoreTheOldest();
        theLatestFirst();
        nothingBecomesAnother();
        say();
        speed();
        rain();
        undo();
        image();
        restore();
    }

    private static void ofMoreTheOldest() {
        Due.sentence("ACTS (24 at most are kept, of more the oldest is forgotten");
        WeirWords x = Due.with(Due.MIXED);
        for (int i = 1; i <= 30; i++) {
            x.say(0, i, 0);
            Due.is("acts", x.count(8), Math.min(i, 24));
        }
        for (int left = 23; left >= 0; left--) {
            Due.is("undo()", x.undo(), left);
            Due.is("what it was", x.word(0, 0), left + 6);
        }
        Due.is("the first six are forgotten", x.undo(), Due.STATE);
        Due.is("what it was", x.word(0, 0), 6);
        WeirWords y = Due.with(Due.MIXED);
        y.rain(9);
        y.minutes(23);
        Due.is("24 acts", y.count(8), 24);
        for (int i = 0; i < 24; i++) {
            y.undo();
        }
        Due.is("the oldest of 24 is kept", y.count(4), 5);
        y.rain(9);
        y.minutes(24);
        for (int i = 0; i < 24; i++) {
            y.undo();
        }
        Due.is("the oldest of 25 is not", y.count(4), 9);
        Due.is("minute", y.count(3), 0);
    }

    private static void theLatestFirst() {
        Due.sentence("each can be undone, the latest first");
        WeirWords x = Due.with(Due.MIXED);
        x.minutes(2);
        x.say(1, 7, 5);
        x.speed(3, 3);
        x.rain(15);
        Due.is("the rain", x.undo(), 4);
        Due.is("rain", x.count(4), 5);
        Due.is("speed yet", x.cell(3, 0), 3);
        Due.is("the speed", x.undo(), 3);
        Due.is("speed", x.cell(3, 0), 0);
        Due.where("said anew yet", x, 1, 7, 5);
        Due.is("what was said", x.undo(), 2);
        Due.where("gone again", x, 1, 0, 4);
        Due.is("one minute of two", x.undo(), 1);
        Due.is("minute", x.count(3), 1);
        Due.where("behind one minute", x, 0, 40, 2);
        Due.where("behind one minute", x, 1, 3, 4);
        x.speed(0, 0);
        Due.is("another act between", x.undo(), 1);
        Due.is("speed", x.cell(0, 0), 1);
        Due.is("the other", x.undo(), 0);
        Due.is("minute", x.count(3), 0);
        Due.is("gone", x.count(7), 0);
        Due.is("quarrel", x.count(6), 116);
    }

    private static void nothingBecomesAnother() {
        Due.sentence("also such by which nothing becomes another");
        WeirWords x = Due.with("r5,0;c0;c1;c1;c1;s5,0;");
        x.say(0, 5, 0);
        Due.is("said as it was", x.count(8), 1);
        x.speed(1, 1);
        Due.is("speed as it was", x.count(8), 2);
        x.rain(5);
        Due.is("rain as it was", x.count(8), 3);
        x.minutes(2);
        Due.is("minutes in which none goes", x.count(8), 5);
        WeirWords y = Due.with(Due.NO_WORDS);
        y.minutes(3);
        Due.is("minutes of no words", y.count(8), 3);
        for (int left = 4; left >= 0; left--) {
            Due.is("undo()", x.undo(), left);
        }
        Due.is("undo()", x.undo(), Due.STATE);
    }

    private static void say() {
        Due.sentence("a WORD is said anew (of a SIZE, in a CELL, whether GONE or not)");
        WeirWords x = Due.with("r0,10;c1;c1;c1;c1;s9,3;m5,1;");
        x.minutes(1);
        Due.is("gone", x.word(0, 2), 1);
        Due.is("one that is gone", x.say(0, 60, 0), 0);
        Due.is("gone no more", x.word(0, 2), 0);
        Due.where("said anew", x, 0, 60, 0);
        Due.is("one that is not", x.say(0, 1, 3), 60);
        Due.where("said anew", x, 0, 1, 3);
        Due.is("kind stays", x.kind(0), 1);
        Due.where("the other stays", x, 1, 5, 0);
        Due.is("minute stays", x.count(3), 1);
        Due.sentence("say: SIZE (1 to 60), a CELL: the SIZE that it had. BAD.");
        int[] words = {-1, 2, Due.LEAST, Due.MOST};
        for (int word : words) {
            Due.is("no word", x.say(word, 1, 0), Due.BAD);
        }
        int[] sizes = {0, 61, -1, Due.LEAST, Due.MOST};
        for (int size : sizes) {
            Due.is("no size", x.say(0, size, 0), Due.BAD);
        }
        int[] cells = {-1, 4, 12, Due.LEAST, Due.MOST};
        for (int cell : cells) {
            Due.is("no cell", x.say(0, 1, cell), Due.BAD);
        }
        Due.is("no river", new WeirWords().say(0, 1, 0), Due.BAD);
        Due.is("no act", x.count(8), 3);
        Due.where("as it was", x, 0, 1, 3);
    }

    private static void speed() {
        Due.sentence("speed: SPEED of a CELL is v (0 to 3): what it was. BAD.");
        WeirWords x = Due.with("r0,10;c1;c1;c1;c2;");
        Due.is("0", x.speed(3, 0), 2);
        Due.is("3", x.speed(3, 3), 0);
        Due.is("again", x.speed(3, 3), 3);
        Due.is("speed", x.cell(3, 0), 3);
        Due.is("another stays", x.cell(2, 0), 1);
        int[] cells = {-1, 4, 12, Due.LEAST, Due.MOST};
        for (int cell : cells) {
            Due.is("no cell", x.speed(cell, 1), Due.BAD);
        }
        int[] none = {-1, 4, Due.LEAST, Due.MOST};
        for (int v : none) {
            Due.is("no speed", x.speed(0, v), Due.BAD);
        }
        Due.is("no river", new WeirWords().speed(0, 0), Due.BAD);
        Due.is("no act", x.count(8), 3);
    }

    private static void rain() {
        Due.sentence("rain: RAIN is v (0 to 15): what it was. BAD; STATE: no RIVER (ahead of BAD).");
        WeirWords x = Due.with("r7,10;c1;c1;c1;c2;");
        Due.is("15", x.rain(15), 7);
        Due.is("0", x.rain(0), 15);
        Due.is("again", x.rain(0), 0);
        int[] none = {-1, 16, Due.LEAST, Due.MOST};
        for (int v : none) {
            Due.is("no rain", x.rain(v), Due.BAD);
            Due.is("no river", new WeirWords().rain(v), Due.STATE);
        }
        Due.is("no river", new WeirWords().rain(1), Due.STATE);
        Due.is("rain", x.count(4), 0);
        Due.is("no act", x.count(8), 3);
    }

    private static void undo() {
        Due.sentence("undo: how many can be undone yet. STATE: none.");
        Due.is("no river", new WeirWords().undo(), Due.STATE);
        WeirWords x = Due.with(Due.MIXED);
        Due.is("none at first", x.undo(), Due.STATE);
        x.minutes(1);
        Due.is("the one", x.undo(), 0);
        Due.is("no more", x.undo(), Due.STATE);
        Due.is("minute", x.count(3), 0);
        x.minutes(24);
        Due.is("one of 24", x.undo(), 23);
        x.rain(2);
        Due.is("24 again", x.count(8), 24);
        Due.is("one of 24", x.undo(), 23);
        Due.is("minute", x.count(3), 23);
    }

    private static void image() {
        Due.sentence("image: An IMAGE (0, 1) is kept of the RIVER: 1. BAD; STATE: no RIVER.");
        int[] none = {-1, 2, Due.LEAST, Due.MOST};
        WeirWords x = Due.with(Due.MIXED);
        for (int k : none) {
            Due.is("no image", x.image(k), Due.BAD);
            Due.is("no image, no river", new WeirWords().image(k), Due.BAD);
        }
        Due.is("no river", new WeirWords().image(0), Due.STATE);
        Due.is("no river", new WeirWords().image(1), Due.STATE);
        x.minutes(1);
        Due.is("0", x.image(0), 1);
        Due.is("no act", x.count(8), 1);
        Due.is("1 is another", x.restore(1), Due.STATE);
        x.minutes(1);
        Due.is("1", x.image(1), 1);
        Due.is("0 stays", x.restore(0), 1);
        Due.is("minute", x.count(3), 1);
        Due.is("0 anew", x.image(0), 1);
        Due.is("1 stays", x.restore(1), 1);
        Due.is("minute", x.count(3), 2);
    }

    private static void restore() {
        Due.sentence("restore: The RIVER is as an IMAGE kept it");
        WeirWords x = Due.with(Due.MIXED);
        x.minutes(2);
        x.image(1);
        x.say(0, 60, 5);
        x.say(1, 60, 5);
        x.speed(3, 2);
        x.rain(10);
        x.minutes(1);
        Due.is("restore(1)", x.restore(1), 1);
        Due.is("minute", x.count(3), 2);
        Due.is("rain", x.count(4), 5);
        Due.is("speed", x.cell(3, 0), 0);
        Due.where("a word", x, 0, 20, 3);
        Due.where("one that is gone", x, 1, 0, 4);
        Due.is("gone", x.count(7), 2);
        x.say(0, 60, 5);
        Due.is("once more", x.restore(1), 1);
        Due.where("what was done then does not touch it", x, 0, 20, 3);
        Due.read(x, "r0,0;c0;c0;c0;c0;");
        Due.is("when another river is there", x.restore(1), 1);
        Due.is("cells", x.count(1), 6);
        Due.is("words", x.count(2), 5);
        Due.is("edge", x.count(5), 2);
        Due.is("kind", x.kind(4), 5);
        Due.sentence("restore: the RIVER, and nothing else");
        Due.fill(x, 6, 1, 2, 3);
        Due.feed(x, "r1");
        x.ask(4, 0);
        x.drop(7);
        x.restore(1);
        Due.is("rows", x.count(0), 1);
        Due.is("bytes on the tape", x.count(9), 2);
        Due.is("trace", x.trace(0), 14);
        Due.is("status()", x.status(), 1);
        Due.is("an image", x.restore(1), 1);
        Due.is("a row", x.drop(6), 3);
        Due.sentence("restore: (no ACT can be undone then): 1.");
        x.minutes(3);
        x.restore(1);
        Due.is("acts", x.count(8), 0);
        Due.is("undo()", x.undo(), Due.STATE);
        x.rain(1);
        Due.is("one of its own", x.undo(), 0);
        Due.is("no more", x.undo(), Due.STATE);
        Due.sentence("restore: BAD; STATE: none was kept.");
        int[] none = {-1, 2, Due.LEAST, Due.MOST};
        for (int k : none) {
            Due.is("no image", x.restore(k), Due.BAD);
            Due.is("no image, no river", new WeirWords().restore(k), Due.BAD);
        }
        Due.is("none was kept", x.restore(0), Due.STATE);
        Due.is("no river, none was kept", new WeirWords().restore(1), Due.STATE);
    }
}
