/** Block 3; promises 16 to 26. */
final class EdgesOfForetold {
    private EdgesOfForetold() {
    }

    static void all() {
        ahead();
        quarrel();
        over();
        kept();
        calm();
        swift();
        swiftRefused();
        stir();
        share();
        told();
        sorts();
        startsAndRains();
        sizes();
        fitsRefused();
        chance();
        chanceRefused();
        years();
        yearsSaidAnew();
        yearsRefused();
    }

    private static void ahead() {
        Due.sentence("FORETOLD (nothing changes) d MINUTES on (0 to 60): CELL of a WORD (NONE: GONE); SIZE");
        WeirWords x = Due.with("r2,10;c0;c1;c1;c1;h60,0;s9,3;s9,1;");
        Due.is("now: cell", x.ahead(0, 0, 0), 0);
        Due.is("now: size", x.ahead(0, 0, 1), 60);
        Due.is("59 on: cell", x.ahead(0, 59, 0), 0);
        Due.is("59 on: size", x.ahead(0, 59, 1), 1);
        Due.is("60 on: gone", x.ahead(0, 60, 0), Due.NONE);
        Due.is("60 on: size", x.ahead(0, 60, 1), 0);
        Due.is("gone by 1", x.ahead(1, 1, 0), Due.NONE);
        Due.is("1 on, dry", x.ahead(2, 1, 0), 2);
        Due.is("2 on, wet", x.ahead(2, 2, 0), Due.NONE);
        Due.is("minute", x.count(3), 0);
        Due.is("acts", x.count(8), 0);
        Due.is("quarrel", x.count(6), 78);
        x.minutes(1);
        Due.is("gone now: cell", x.ahead(1, 0, 0), Due.NONE);
        Due.is("gone now: size", x.ahead(1, 0, 1), 0);
        Due.is("from minute 1", x.ahead(2, 1, 0), Due.NONE);
        Due.is("from minute 1", x.ahead(0, 59, 0), Due.NONE);
        Due.sentence("ahead: BAD.");
        int[] words = {-1, 3, Due.LEAST, Due.MOST};
        for (int word : words) {
            Due.is("no word", x.ahead(word, 0, 0), Due.BAD);
        }
        int[] ds = {-1, 61, Due.LEAST, Due.MOST};
        for (int d : ds) {
            Due.is("d " + d, x.ahead(0, d, 0), Due.BAD);
        }
        int[] whats = {-1, 2, Due.LEAST, Due.MOST};
        for (int what : whats) {
            Due.is("what " + what, x.ahead(0, 0, what), Due.BAD);
        }
        Due.is("no river", new WeirWords().ahead(0, 0, 0), Due.BAD);
    }

    private static void quarrel() {
        Due.sentence("the QUARREL (SIZE of all, together).");
        WeirWords x = Due.with("r0,0;c1;c0;c0;c0;s9,0;h60,1;m5,2;");
        Due.is("now", x.quarrel(0), 74);
        Due.is("1 on", x.quarrel(1), 4 + 59 + 5);
        Due.is("59 on", x.quarrel(59), 4 + 1 + 5);
        Due.is("60 on", x.quarrel(60), 4 + 5);
        Due.is("of no words", Due.with(Due.NO_WORDS).quarrel(60), 0);
        WeirWords most = Due.with("r0,0;c0;c0;c0;c0;s60,0;s60,0;s60,0;s60,0;s60,0;s60,0;s60,0;");
        Due.is("the most", most.quarrel(60), 420);
        Due.sentence("quarrel: BAD; STATE: no RIVER (ahead of BAD).");
        int[] none = {-1, 61, Due.LEAST, Due.MOST};
        for (int d : none) {
            Due.is("d " + d, x.quarrel(d), Due.BAD);
            Due.is("no river", new WeirWords().quarrel(d), Due.STATE);
        }
        Due.is("no river", new WeirWords().quarrel(0), Due.STATE);
    }

    private static void over() {
        Due.sentence("OVER: behind how many MINUTES (0 to 60) a WORD is GONE first; NONE.");
        WeirWords x = Due.with("r0,10;c0;c1;c1;c1;h60,0;h59,0;s9,0;s9,3;s9,1;m9,0;");
        int[] due = {60, 59, Due.NONE, 1, 3, Due.NONE};
        for (int word = 0; word < due.length; word++) {
            Due.is("over(" + word + ")", x.over(word), due[word]);
        }
        x.minutes(1);
        Due.is("gone now", x.over(3), 0);
        Due.is("from now on", x.over(0), 59);
        WeirWords y = Due.with("r2,10;c1;c1;c1;c1;s5,1;");
        Due.is("by the rain in minute 1", y.over(0), 2);
        y.rain(1);
        Due.is("by the rain in minute 0", y.over(0), 2);
        y.minutes(3);
        y.say(0, 5, 1);
        Due.is("by the rain in minute 4", y.over(0), 2);
        y.rain(4);
        Due.is("by none in minutes 3, 4, 5", y.over(0), 3);
        Due.sentence("over: BAD.");
        int[] none = {-1, 6, Due.LEAST, Due.MOST};
        for (int word : none) {
            Due.is("no word", x.over(word), Due.BAD);
        }
        Due.is("no river", new WeirWords().over(0), Due.BAD);
    }

    private static void kept() {
        Due.sentence("KEPT: WORDS (bits) that are not GONE behind 60.");
        Due.is("a shout of 60 is gone", Due.with("r0,10;c0;c1;c1;c1;h60,0;s9,0;s9,1;m9,3;").kept(), 2 + 8);
        Due.is("all seven", Due.with("r0,10;c0;c0;c0;c0;s1,0;s1,0;s1,0;s1,0;s1,0;s1,0;s1,0;").kept(), 127);
        Due.is("none", Due.with("r0,10;c1;c1;c1;c1;s1,0;").kept(), 0);
        Due.is("no words", Due.with(Due.NO_WORDS).kept(), 0);
        WeirWords x = Due.with("r0,10;c0;c1;c1;c1;s9,0;s9,3;");
        x.minutes(1);
        Due.is("one is gone now", x.kept(), 1);
        Due.sentence("kept: STATE: no RIVER.");
        Due.is("no river", new WeirWords().kept(), Due.STATE);
    }

    private static void calm() {
        Due.sentence("CALM for n MINUTES (1 to 30): the CELL by which, SPEED 0 now, the QUARREL is least behind them");
        // Each of 0 to 3 sends a word over the edge or away; 4, still already, none.
        WeirWords x = Due.with("r0,2;c3;c3;c3;c3;c0;s8,0;s8,1;s8,2;s8,3;");
        Due.is("which", x.calm(1, 0), 4);
        Due.is("how much", x.calm(1, 1), 4 + 4);
        WeirWords y = Due.with("r0,10;c0;c0;c0;c0;h40,0;");
        Due.is("behind 1", y.calm(1, 1), 39);
        Due.is("behind 30", y.calm(30, 1), 10);
        // None comes to cell 2: it alone can be still for nothing.
        WeirWords z = Due.with("r0,1;c1;c2;c1;c1;s10,0;s30,1;");
        Due.is("which, behind 2", z.calm(2, 0), 2);
        Due.is("how much, behind 2", z.calm(2, 1), 5);
        Due.is("no words: which", Due.with(Due.NO_WORDS).calm(30, 0), 0);
        Due.is("no words: how much", Due.with(Due.NO_WORDS).calm(30, 1), 0);
        Due.is("nothing changes", x.cell(0, 0) + x.cell(3, 0), 6);
        // From now on: in minute 1 both are in other cells, another is said, another cell is slow.
        z.minutes(1);
        Due.is("how much, from minute 1", z.calm(1, 1), 5);
        z.speed(1, 0);
        z.say(1, 60, 3);
        Due.is("which, from now on", z.calm(1, 0), 0);
        Due.is("how much, from now on", z.calm(1, 1), 10);
        WeirWords twelve = Due.with("r0,10;c1;c1;c1;c1;c1;c1;c1;c1;c1;c1;c1;c1;s8,0;");
        Due.is("of twelve the last: the edge halves ahead of it", twelve.calm(12, 0), 11);
        Due.is("how much", twelve.calm(12, 1), 4);
        Due.sentence("of several the first: which; how much.");
        WeirWords w = Due.with("r0,0;c1;c1;c1;c1;s8,0;");
        Due.is("1 to 3 are as good", w.calm(1, 0), 1);
        Due.is("how much", w.calm(1, 1), 4);
        Due.is("all are as good", y.calm(1, 0), 0);
        Due.sentence("calm: BAD; STATE: no RIVER (ahead of BAD).");
        int[] ns = {0, 31, -1, Due.LEAST, Due.MOST};
        for (int n : ns) {
            Due.is("n " + n, x.calm(n, 0), Due.BAD);
            Due.is("no river", new WeirWords().calm(n, 0), Due.STATE);
        }
        int[] whats = {-1, 2, Due.LEAST, Due.MOST};
        for (int what : whats) {
            Due.is("what " + what, x.calm(1, what), Due.BAD);
            Due.is("no river", new WeirWords().calm(1, what), Due.STATE);
        }
    }

    private static void isSwift(String river, int n, int many, int which) {
        WeirWords x = Due.with(river);
        Due.is("how many, " + n + " minutes of " + river, x.swift(n, 0), many);
        Due.is("which, " + n + " minutes of " + river, x.swift(n, 1), which);
    }

    private static void swift() {
        Due.sentence("SWIFT for n MINUTES (1 to 30): the fewest CELLS whose SPEED is 3 now so that all WORDS are GONE");
        // 4 does for both: 3, 4, away; 1, 2, 4, away. So would 2 and 3, a lesser number of bits.
        isSwift("r0,10;c1;c1;c2;c1;c0;s5,3;s5,1;", 4, 1, 16);
        isSwift("r0,10;c0;c0;c0;c0;s5,0;", 1, Due.NONE, Due.NONE);
        isSwift("r0,10;c0;c0;c0;c0;s5,0;", 2, 2, 1 + 8);
        isSwift("r1,10;c0;c0;c0;c0;s5,0;", 1, 1, 1);
        isSwift("r0,10;c0;c0;c0;c0;s5,0;s5,1;s5,2;s5,3;", 2, 4, 15);
        isSwift("r0,10;c0;c0;c0;c0;h30,0;", 30, 0, 0);
        isSwift("r0,10;c0;c0;c0;c0;h30,1;", 29, 1, 2);
        isSwift("r0,10;c0;c0;c0;c0;h31,1;", 30, 1, 2);
        isSwift("r0,10;c1;c1;c1;c1;s5,0;", 4, 0, 0);
        isSwift(Due.NO_WORDS, 1, 0, 0);
        String still = "r0,10;c0;c0;c0;c0;c0;c0;c0;c0;c0;c0;c0;c0;";
        isSwift(still + "s5,5;s5,6;s5,7;s5,8;s5,9;s5,10;s5,11;", 30, 7, 0xFE0);
        // From now on: the slower cell, the word said anew, the minutes that are gone.
        WeirWords x = Due.with("r0,10;c1;c1;c1;c1;s5,0;");
        x.speed(2, 0);
        Due.is("a cell is still now: how many", x.swift(4, 0), 1);
        Due.is("a cell is still now: which", x.swift(4, 1), 1);
        x.say(0, 5, 3);
        Due.is("it is in 3 now", x.swift(1, 1), 0);
        x.minutes(1);
        Due.is("it is gone now", x.swift(1, 1), 0);
        Due.sentence("which (bits), of several the least; NONE.");
        // 1 and 4 would do, too: 1, 4, away; 3, 4, away. But 2 and 3 is the lesser number.
        isSwift("r0,10;c1;c1;c0;c1;c0;s5,1;s5,3;", 2, 2, 4 + 8);
        isSwift("r0,10;c1;c1;c1;c1;s5,0;", 3, 1, 1);
        isSwift("r0,10;c3;c3;c3;c3;m5,3;", 30, Due.NONE, Due.NONE);
        isSwift("r0,10;c3;c3;c3;c3;s5,0;e60,3;", 30, Due.NONE, Due.NONE);
        isSwift("r0,10;c0;c0;c0;c0;c0;c0;c0;c0;c0;c0;c0;c0;s5,0;", 3, Due.NONE, Due.NONE);
    }

    private static void swiftRefused() {
        Due.sentence("swift: BAD; STATE: no RIVER (ahead of BAD).");
        WeirWords x = Due.with(Due.MIXED);
        int[] ns = {0, 31, -1, Due.LEAST, Due.MOST};
        for (int n : ns) {
            Due.is("n " + n, x.swift(n, 0), Due.BAD);
            Due.is("no river", new WeirWords().swift(n, 0), Due.STATE);
        }
        int[] whats = {-1, 2, Due.LEAST, Due.MOST};
        for (int what : whats) {
            Due.is("what " + what, x.swift(1, what), Due.BAD);
            Due.is("no river", new WeirWords().swift(1, what), Due.STATE);
        }
    }

    private static void stir() {
        Due.sentence("STIR for a WORD, a CELL, n MINUTES (1 to 30): the least SPEED (0 to 3) of that CELL by which ..; NONE.");
        WeirWords x = Due.with("r0,10;c0;c1;c0;c1;c1;s5,2;h31,0;h30,0;m5,0;");
        Due.is("by 3, away at once", x.stir(0, 2, 1), 3);
        Due.is("by 2, then 4, away", x.stir(0, 2, 2), 2);
        Due.is("by 1, then 3, 4, away", x.stir(0, 2, 3), 1);
        Due.is("by no other", x.stir(0, 3, 30), Due.NONE);
        Due.is("of 31 one is left behind 30", x.stir(1, 3, 30), Due.NONE);
        Due.is("of 30 none, whatever the speed", x.stir(2, 3, 30), 0);
        Due.is("of 30 one is left behind 29", x.stir(2, 3, 29), Due.NONE);
        Due.is("of 30 by the least, its cell still", x.stir(2, 0, 30), 0);
        Due.is("a salmon", x.stir(3, 0, 30), Due.NONE);
        Due.is("nothing changes", x.cell(2, 0), 0);
        // It has 3, by which the word goes, too; by 0 it would stay.
        WeirWords y = Due.with("r0,10;c0;c0;c0;c3;s5,3;s5,3;");
        Due.is("less than it is", y.stir(0, 3, 1), 1);
        y.minutes(1);
        Due.is("gone now", y.stir(0, 0, 1), 0);
        Due.sentence("stir: BAD.");
        int[] words = {-1, 4, Due.LEAST, Due.MOST};
        for (int word : words) {
            Due.is("no word", x.stir(word, 0, 1), Due.BAD);
        }
        int[] cells = {-1, 5, 12, Due.LEAST, Due.MOST};
        for (int cell : cells) {
            Due.is("no cell", x.stir(0, cell, 1), Due.BAD);
        }
        int[] ns = {0, 31, -1, Due.LEAST, Due.MOST};
        for (int n : ns) {
            Due.is("n " + n, x.stir(0, 0, n), Due.BAD);
        }
        Due.is("no river", new WeirWords().stir(0, 0, 1), Due.BAD);
    }

    private static void shares(WeirWords x, int n, int... due) {
        for (int word = 0; word < due.length; word++) {
            Due.is("share(" + word + ", " + n + ")", x.share(word, n), due[word]);
        }
    }

    private static void share() {
        Due.sentence("SHARE of a WORD of n (0 to 999): n times its SIZE, by SIZE of all (cut)");
        WeirWords x = Due.with("r0,10;c0;c0;c0;c0;s2,0;s1,0;");
        shares(x, 0, 0, 0);
        shares(x, 3, 2, 1);
        shares(x, 999, 666, 333);
        shares(Due.with("r0,10;c0;c0;c0;c0;s60,0;"), 999, 999);
        shares(Due.with("r0,10;c0;c0;c0;c0;s1,0;"), 999, 999);
        // Of its size now, not as foretold.
        shares(Due.with("r0,10;c0;c0;c0;c0;h1,0;s2,0;"), 3, 1, 2);
        Due.sentence("what is over 1 each to the first of these that have SIZE");
        shares(x, 1, 1, 0);
        shares(x, 2, 2, 0);
        shares(x, 4, 3, 1);
        shares(x, 998, 666, 332);
        // The first is gone: what is over is for those behind it.
        WeirWords y = Due.with("r0,10;c1;c1;c1;c1;s9,3;s1,0;s1,0;s1,0;");
        y.minutes(1);
        shares(y, 1, 0, 1, 0, 0);
        shares(y, 2, 0, 1, 1, 0);
        shares(y, 3, 0, 1, 1, 1);
        shares(y, 5, 0, 2, 2, 1);
        shares(Due.with("r0,10;c0;c0;c0;c0;s1,0;s1,0;s1,0;s1,0;s1,0;s1,0;s1,0;"), 6, 1, 1, 1, 1, 1, 1, 0);
        shares(Due.with("r0,10;c0;c0;c0;c0;s1,0;s60,0;s60,0;"), 2, 1, 1, 0);
        Due.sentence("0, if none has.");
        WeirWords z = Due.with("r0,10;c1;c1;c1;c1;s9,3;s9,3;");
        z.minutes(1);
        shares(z, 0, 0, 0);
        shares(z, 999, 0, 0);
        Due.sentence("share: BAD.");
        int[] words = {-1, 2, Due.LEAST, Due.MOST};
        for (int word : words) {
            Due.is("no word", x.share(word, 1), Due.BAD);
        }
        int[] ns = {-1, 1000, Due.LEAST, Due.MOST};
        for (int n : ns) {
            Due.is("n " + n, x.share(0, n), Due.BAD);
            Due.is("n " + n + ", none has size", z.share(0, n), Due.BAD);
        }
        Due.is("no river", new WeirWords().share(0, 0), Due.BAD);
    }

    private static void told() {
        Due.sentence("A row tells the CELL of a WORD (told as 99: GONE) behind each of n MINUTES (1 to 12) from now on.");
        WeirWords x = Due.with("r0,10;c1;c1;c1;c1;s5,2;s5,0;");
        Due.fill(x, 0, 3, 99, 99, 3, 3, 99, 2);
        Due.is("behind 1", x.fits(0, 0, 0, 1, 0) & 2, 2);
        Due.is("then gone", x.fits(0, 0, 0, 2, 0) & 2, 2);
        Due.is("gone yet", x.fits(0, 0, 0, 3, 0) & 2, 2);
        Due.is("it was in 3 when it went", x.fits(0, 0, 3, 2, 0) & 2, 0);
        Due.is("gone but once", x.fits(0, 0, 0, 4, 0) & 2, 0);
        Due.is("gone too early", x.fits(0, 0, 5, 1, 0) & 2, 0);
        Due.is("where it is now is not told", x.fits(0, 0, 6, 1, 0) & 2, 0);
        x.minutes(1);
        Due.is("from now on", x.fits(0, 0, 1, 2, 0) & 2, 2);
        WeirWords y = Due.with("r0,10;c0;c0;c0;c0;s5,2;h13,2;h12,2;");
        Due.fill(y, 1, 2, 2, 2, 2, 2, 2, 2, 2, 2, 2, 2, 2);
        Due.is("12 minutes", y.fits(0, 1, 0, 12, 0) & 2, 2);
        Due.is("1 is left behind 12", y.fits(1, 1, 0, 12, 0) & 4, 4);
        Due.is("none is left behind 12", y.fits(2, 1, 0, 12, 0) & 4, 0);
        Due.is("one is left behind 11", y.fits(2, 1, 0, 11, 0) & 4, 4);
        y.set(1, 11, 99);
        Due.is("the twelfth is looked at", y.fits(0, 1, 0, 12, 0) & 2, 0);
        y.set(1, 0, Due.NONE);
        Due.is("the first is looked at", y.fits(0, 1, 0, 1, 0), 0);
        y.row(2, 0, 1);
        y.set(2, 0, 2);
        Due.is("told by bytes", y.fits(0, 2, 0, 1, 0) & 2, 2);
        y.row(2, 1, 1);
        y.set(2, 0, 2);
        Due.is("told by shorts", y.fits(0, 2, 0, 1, 0) & 2, 2);
    }

    private static void sorts() {
        Due.sentence("SORTS: KINDS (bits 1 to 5) of it by which it is so");
        WeirWords x = Due.with("r0,10;c0;c3;c0;c0;c0;c0;s5,0;s1,0;s5,5;s5,1;");
        Due.fill(x, 0, 0, 99, 5, 4, 3, 4, 4);
        Due.is("all", x.fits(0, 0, 0, 1, 0), 2 + 4 + 8 + 16 + 32);
        Due.is("all but a shout", x.fits(1, 0, 0, 1, 0), 2 + 8 + 16 + 32);
        Due.is("a shout that is gone", x.fits(1, 0, 1, 1, 0), 4);
        Due.is("none that goes up", x.fits(2, 0, 2, 1, 0), 2 + 4 + 8);
        Due.is("a salmon", x.fits(2, 0, 3, 1, 0), 16);
        Due.is("an eel", x.fits(2, 0, 4, 1, 0), 32);
        Due.is("a stick, a shout", x.fits(3, 0, 5, 2, 0), 2 + 4);
        Due.is("froth", x.fits(3, 0, 4, 1, 0), 8);
        Due.is("none", x.fits(3, 0, 0, 1, 0), 0);
    }

    private static void startsAndRains() {
        Due.sentence("STARTS: CELLS (bits) of it now");
        WeirWords x = Due.with("r0,10;c2;c1;c0;c0;c0;c0;c0;c0;c0;c0;c0;c0;s5,3;s1,0;");
        Due.fill(x, 0, 2, 11, 99, 0, 12, -1);
        Due.is("from 0, 1, 2", x.fits(0, 0, 0, 1, 1), 1 + 2 + 4);
        Due.is("from 11", x.fits(0, 0, 1, 1, 1), 1 << 11);
        Due.is("none is gone", x.fits(0, 0, 2, 1, 1), 0);
        Due.is("none is in 0", x.fits(0, 0, 3, 1, 1), 0);
        Due.is("no cell", x.fits(0, 0, 4, 1, 1), 0);
        Due.is("no cell", x.fits(0, 0, 5, 1, 1), 0);
        WeirWords y = Due.with("r0,1;c1;c1;c1;c1;s1,0;s2,0;");
        Due.fill(y, 0, 99, 2);
        Due.is("of size 1 it is gone from 1, from 3", y.fits(0, 0, 0, 1, 1), 2 + 8);
        Due.is("of size 2 from 3", y.fits(1, 0, 0, 1, 1), 8);
        Due.is("of size 2 from 1", y.fits(1, 0, 1, 1, 1), 2);
        Due.sentence("RAINS (0 to 15, bits)");
        WeirWords z = Due.with("r6,10;c1;c1;c1;c1;c1;c1;c1;c1;c1;s5,0;m5,0;");
        Due.fill(z, 0, 2, 4, 6, 8, 0, 1, 2, 3, 4);
        Due.is("rain in all", z.fits(0, 0, 0, 4, 2), 1 << 15);
        Due.is("rain in none", z.fits(0, 0, 5, 4, 2), 1);
        Due.is("rain in minute 0", z.fits(0, 0, 0, 1, 2), 0xAAAA);
        Due.is("all", z.fits(1, 0, 4, 1, 2), 0xFFFF);
        Due.is("none", z.fits(0, 0, 4, 1, 2), 0);
        z.minutes(3);
        z.say(0, 5, 0);
        Due.is("rain in minute 3", z.fits(0, 0, 0, 1, 2), 0xFF00);
        Due.is("the rain stays", z.count(4), 6);
    }

    private static void sizes() {
        Due.sentence("SIZES (1 to 60) of it now: how many; the least; NONE.");
        WeirWords x = Due.with("r0,1;c0;c1;c0;c0;s5,0;s5,1;h5,0;m5,2;");
        Due.fill(x, 0, 0, 99, 2, 1, 0);
        Due.is("all: how many", x.fits(0, 0, 0, 1, 3), 60);
        Due.is("all: the least", x.fits(0, 0, 0, 1, 4), 1);
        Due.is("gone by the edge: how many", x.fits(1, 0, 1, 1, 3), 1);
        Due.is("gone by the edge: the least", x.fits(1, 0, 1, 1, 4), 1);
        Due.is("not gone by it: how many", x.fits(1, 0, 2, 1, 3), 59);
        Due.is("not gone by it: the least", x.fits(1, 0, 2, 1, 4), 2);
        Due.is("a salmon that goes up: how many", x.fits(3, 0, 3, 1, 3), 41);
        Due.is("a salmon that goes up: the least", x.fits(3, 0, 3, 1, 4), 20);
        Due.is("a salmon that stays: how many", x.fits(3, 0, 2, 1, 3), 19);
        Due.is("a salmon that stays: the least", x.fits(3, 0, 2, 1, 4), 1);
        Due.is("none: how many", x.fits(0, 0, 2, 1, 3), 0);
        Due.is("none: the least", x.fits(0, 0, 2, 1, 4), Due.NONE);
        Due.fill(x, 1, 0, 0, 0, 0, 0, 0, 0, 0, 0, 0, 0, 0);
        Due.is("a shout not gone behind 12: how many", x.fits(2, 1, 0, 12, 3), 48);
        Due.is("a shout not gone behind 12: the least", x.fits(2, 1, 0, 12, 4), 13);
        Due.is("its size stays", x.word(2, 0), 5);
    }

    private static void fitsRefused() {
        Due.sentence("fits: BAD: WORD, ROW, n, what; STATE: it is GONE; NULL; PLACE.");
        WeirWords x = Due.with("r0,10;c1;c1;c1;c1;s5,3;s5,0;");
        Due.fill(x, 0, 1, 2, 3);
        x.row(1, 2, 0);
        int[] words = {-1, 2, Due.LEAST, Due.MOST};
        for (int word : words) {
            Due.is("no word", x.fits(word, 0, 0, 1, 0), Due.BAD);
        }
        int[] rows = {-1, 8, Due.LEAST, Due.MOST};
        for (int row : rows) {
            Due.is("no row", x.fits(1, row, 0, 1, 0), Due.BAD);
        }
        int[] ns = {0, 13, -1, Due.LEAST, Due.MOST};
        for (int n : ns) {
            Due.is("n " + n, x.fits(1, 0, 0, n, 0), Due.BAD);
        }
        int[] whats = {-1, 5, Due.LEAST, Due.MOST};
        for (int what : whats) {
            Due.is("what " + what, x.fits(1, 0, 0, 1, what), Due.BAD);
        }
        Due.is("no river", new WeirWords().fits(0, 0, 0, 1, 0), Due.BAD);
        for (int what = 0; what <= 4; what++) {
            Due.is("missing", x.fits(1, 7, 0, 1, what), Due.NULL);
            Due.is("status()", x.status(), 1);
            int[][] places = {{-1, 1}, {3, 1}, {2, 2}, {0, 4}, {1, 12}, {Due.MOST, 12}, {Due.LEAST, 12}, {Due.LEAST, 1}};
            for (int[] place : places) {
                Due.is("no place " + place[0] + ", " + place[1], x.fits(1, 0, place[0], place[1], what), Due.PLACE);
                Due.is("status()", x.status(), 2);
            }
            Due.is("a row of none", x.fits(1, 1, 0, 1, what), Due.PLACE);
        }
        Due.is("up to the end", x.fits(1, 0, 0, 3, 1), 1);
        Due.is("status()", x.status(), 0);
        x.minutes(1);
        x.drop(7);
        Due.is("gone", x.fits(0, 0, 0, 1, 0), Due.STATE);
        Due.is("gone, ahead of NULL", x.fits(0, 7, 0, 1, 0), Due.STATE);
        Due.is("gone, ahead of PLACE", x.fits(0, 0, 9, 1, 0), Due.STATE);
        Due.is("BAD ahead of gone", x.fits(0, 0, 0, 13, 0), Due.BAD);
        Due.is("status() stays", x.status(), 1);
    }

    private static void isChance(WeirWords x, int word, int n, int c, int above, int below) {
        Due.is("above, chance of " + word + ", " + n + ", " + c, x.chance(word, n, c, 0), above);
        Due.is("below, chance of " + word + ", " + n + ", " + c, x.chance(word, n, c, 1), below);
    }

    private static void chance() {
        Due.sentence("CHANCE: each of n MINUTES (0 to 8) from now on has rain by c of 10, each by itself (whatever RAIN says)");
        // Gone by one minute with rain; behind three minutes by one or more; never; always by two.
        WeirWords x = Due.with("r0,10;c1;c1;c1;c1;s5,2;s5,0;m5,3;");
        isChance(x, 0, 1, 3, 3, 10);
        isChance(x, 1, 3, 3, 657, 1000);
        x.rain(15);
        isChance(x, 0, 1, 3, 3, 10);
        isChance(x, 1, 3, 3, 657, 1000);
        Due.is("the rain stays", x.count(4), 15);
        isChance(x, 0, 1, 0, 0, 1);
        isChance(x, 0, 1, 10, 1, 1);
        isChance(x, 1, 2, 10, 1, 1);
        isChance(x, 1, 2, 9, 81, 100);
        isChance(x, 1, 2, 1, 1, 100);
        isChance(x, 0, 0, 10, 0, 1);
        // By a cell of 12 each minute and one more by each rain: 7 and a rain, of 8 all but none; 8 rains.
        WeirWords y = Due.with("r0,10;c1;c1;c1;c1;c1;c1;c1;c1;c1;c1;c1;c1;s5,3;s5,0;h8,0;");
        isChance(y, 0, 8, 1, 56953279, 100000000);
        isChance(y, 0, 8, 3, 94235199, 100000000);
        isChance(y, 1, 6, 9, 531441, 1000000);
        isChance(y, 2, 8, 0, 1, 1);
        isChance(y, 2, 7, 0, 0, 1);
        Due.sentence("fractions, told as two numbers in lowest terms (0 is 0 by 1).");
        isChance(x, 0, 1, 2, 1, 5);
        isChance(x, 0, 1, 5, 1, 2);
        isChance(x, 0, 1, 8, 4, 5);
        isChance(x, 1, 2, 5, 1, 4);
        isChance(x, 1, 2, 6, 9, 25);
        isChance(x, 2, 8, 5, 0, 1);
        isChance(x, 2, 0, 0, 0, 1);
        isChance(x, 0, 8, 5, 1, 1);
        x.minutes(4);
        isChance(x, 0, 0, 5, 1, 1);
        isChance(x, 0, 8, 0, 1, 1);
    }

    private static void chanceRefused() {
        Due.sentence("chance (c 0 to 10): above (what = 0), below (1). BAD.");
        WeirWords x = Due.with("r0,10;c1;c1;c1;c1;s5,2;");
        int[] words = {-1, 1, Due.LEAST, Due.MOST};
        for (int word : words) {
            Due.is("no word", x.chance(word, 1, 5, 0), Due.BAD);
        }
        int[] ns = {-1, 9, Due.LEAST, Due.MOST};
        for (int n : ns) {
            Due.is("n " + n, x.chance(0, n, 5, 0), Due.BAD);
        }
        int[] cs = {-1, 11, Due.LEAST, Due.MOST};
        for (int c : cs) {
            Due.is("c " + c, x.chance(0, 1, c, 0), Due.BAD);
        }
        int[] whats = {-1, 2, Due.LEAST, Due.MOST};
        for (int what : whats) {
            Due.is("what " + what, x.chance(0, 1, 5, what), Due.BAD);
        }
        Due.is("no river", new WeirWords().chance(0, 0, 0, 0), Due.BAD);
    }

    private static void isDrawn(WeirWords x, int n, int seed, int quarrel, int often) {
        Due.is("quarrel, drawn " + n + " by " + seed, x.drawn(n, seed, 0), quarrel);
        Due.is("how often, drawn " + n + " by " + seed, x.drawn(n, seed, 1), often);
    }

    private static void years() {
        Due.sentence("YEARS of n MINUTES (0 to 60) by a SEED (X at first)");
        WeirWords x = Due.with("r0,10;c0;c0;c0;c0;h60,0;s9,1;");
        isDrawn(x, 0, 1, 69, 0);
        isDrawn(x, 0, 999999, 69, 0);
        isDrawn(x, 59, 1, 10, 0);
        isDrawn(x, 60, 1, 9, 0);
        Due.sentence("RAIN is the rest of X by 16 from then on");
        // By the seed 1 X is 16807, its rest by 16 is 7: minute 0 has rain; by 2 it is 33614, 14: it has none.
        WeirWords y = Due.with("r0,0;c1;c1;c1;c1;s40,2;s40,0;");
        isDrawn(y, 1, 1, 20, 0);
        isDrawn(y, 1, 2, 40 + 20, 0);
        y.rain(15);
        isDrawn(y, 1, 2, 40 + 20, 0);
        Due.is("the rain stays", y.count(4), 15);
        // Minute 1 by the seed 1: X is 282475249, its rest 1, without rain; by 2: 564950498, 2, with rain.
        y.minutes(1);
        y.say(0, 40, 2);
        y.say(1, 40, 2);
        isDrawn(y, 1, 127774, 0, 0);
        isDrawn(y, 1, 999999, 80, 0);
        Due.sentence("(none: nothing)");
        isDrawn(Due.with(Due.NO_WORDS), 60, 999999, 0, 0);
        isDrawn(Due.with(Due.NO_WORDS), 0, 1, 0, 0);
    }

    private static void yearsSaidAnew() {
        Due.sentence("ahead of each X becomes the rest of (X times 16807) by 2147483647");
        // By 999999, in which X times 16807 is beyond an int at once: 1774597664, 1410049312, 1216742139, 1445843439.
        WeirWords x = Due.with("r0,10;c0;c0;c0;c0;h1,0;");
        isDrawn(x, 1, 999999, 0, 0);
        isDrawn(x, 2, 999999, 52, 1);
        isDrawn(x, 3, 999999, 51, 1);
        // By 1: 16807, 282475249, of which the next times 16807 is beyond an int.
        isDrawn(x, 1, 1, 0, 0);
        isDrawn(x, 2, 1, 49, 1);
        Due.sentence("the WORD that is the rest of X by how many there are, if it is GONE, is said anew");
        // By 1, 16807 by 3 leaves 1; by 2, 33614 by 3 leaves 2: it is not gone; by 3, 50421 by 3 leaves 0.
        WeirWords y = Due.with("r0,10;c0;c0;c0;c1;s9,3;s9,3;s9,0;");
        y.minutes(1);
        y.speed(3, 0);
        isDrawn(y, 1, 1, 9 + 8, 1);
        isDrawn(y, 1, 2, 9, 0);
        isDrawn(y, 1, 3, 9 + 22, 1);
        Due.is("nothing changes", y.count(7), 3);
        Due.sentence("SIZE 1 more than the rest of X by 60, in the CELL that is the rest of X by how many there are");
        // By 500000 X is 1961049059: 59 by 60, 3 by 4.
        WeirWords z = Due.with("r0,10;c0;c0;c0;c1;s9,3;");
        z.minutes(1);
        z.speed(3, 0);
        isDrawn(z, 1, 500000, 60, 1);
        z.speed(3, 1);
        isDrawn(z, 1, 500000, 0, 1);
        // By 999999 X is 1774597664: 44 by 60, 0 by 4.
        isDrawn(z, 1, 999999, 45, 1);
        z.speed(0, 3);
        isDrawn(z, 1, 999999, 45, 1);
        isDrawn(z, 2, 999999, 0, 1);
        Due.sentence("then the MINUTE: the QUARREL at last; how often one was said anew.");
        WeirWords w = Due.with("r0,10;c1;c1;c1;c1;s1,3;");
        // X by 1: 16807; 282475249: 50 in 1, dry; 1622650073: 9; dry; 984943658: 10, wet; 1144108930: 11 in 2, dry.
        isDrawn(w, 1, 1, 0, 0);
        isDrawn(w, 2, 1, 50, 1);
        isDrawn(w, 3, 1, 50, 1);
        isDrawn(w, 4, 1, 0, 1);
        isDrawn(w, 5, 1, 11, 2);
        Due.is("nothing changes", w.count(3), 0);
        Due.is("no act", w.count(8), 0);
    }

    private static void yearsRefused() {
        Due.sentence("drawn: YEARS by a SEED (1 to 999999) .. BAD; STATE: no RIVER (ahead of BAD).");
        WeirWords x = Due.with(Due.STILL);
        int[] ns = {-1, 61, Due.LEAST, Due.MOST};
        for (int n : ns) {
            Due.is("n " + n, x.drawn(n, 1, 0), Due.BAD);
            Due.is("no river", new WeirWords().drawn(n, 1, 0), Due.STATE);
        }
        int[] seeds = {0, 1000000, -1, Due.LEAST, Due.MOST};
        for (int seed : seeds) {
            Due.is("seed " + seed, x.drawn(1, seed, 0), Due.BAD);
            Due.is("no river", new WeirWords().drawn(1, seed, 0), Due.STATE);
        }
        int[] whats = {-1, 2, Due.LEAST, Due.MOST};
        for (int what : whats) {
            Due.is("what " + what, x.drawn(1, 1, what), Due.BAD);
            Due.is("no river", new WeirWords().drawn(1, 1, what), Due.STATE);
        }
        Due.is("no river", new WeirWords().drawn(1, 1, 0), Due.STATE);
    }
}
