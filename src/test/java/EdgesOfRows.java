/** Block 1, ROWS; promises 2 to 5. */
final class EdgesOfRows {
    private EdgesOfRows() {
    }

    static void all() {
        theRows();
        lanes();
        lengths();
        itemsAtFirst();
        row();
        set();
        copy();
        copyWithinOne();
        drop();
    }

    private static void theRows() {
        Due.sentence("ROWS 0 .. 7");
        WeirWords x = Due.with(Due.STILL);
        for (int row = 0; row < 8; row++) {
            Due.is("row " + row, x.row(row, 2, 1), 1);
            Due.is("rows there are", x.count(0), row + 1);
        }
        for (int row = 0; row < 8; row++) {
            Due.is("set " + row, x.set(row, 0, row), row);
        }
        for (int row = 0; row < 8; row++) {
            Due.items("row " + row, x, row, row);
        }
        int[] none = {-1, 8, Due.LEAST, Due.MOST};
        for (int row : none) {
            Due.is("row", x.row(row, 0, 1), Due.BAD);
            Due.is("set", x.set(row, 0, 1), Due.BAD);
            Due.is("copy from", x.copy(row, 0, 0, 0, 1), Due.BAD);
            Due.is("copy to", x.copy(0, 0, row, 0, 1), Due.BAD);
            Due.is("drop", x.drop(row), Due.BAD);
            Due.is("fits", x.fits(0, row, 0, 1, 0), Due.BAD);
        }
        Due.sentence("are missing (at first)");
        WeirWords y = Due.with(Due.STILL);
        Due.is("rows there are", y.count(0), 0);
        for (int row = 0; row < 8; row++) {
            Due.is("drop " + row, y.drop(row), Due.NULL);
            Due.is("set " + row, y.set(row, 0, 1), Due.NULL);
            Due.is("fits " + row, y.fits(0, row, 0, 1, 0), Due.NULL);
            Due.is("copy " + row, y.copy(row, 0, row, 0, 0), Due.NULL);
        }
    }

    private static void lanes() {
        Due.sentence("have a LANE (0 bytes, 1 shorts, 2 ints)");
        WeirWords x = new WeirWords();
        Due.is("bytes", x.row(0, 0, 1), 1);
        Due.is("shorts", x.row(1, 1, 1), 1);
        Due.is("ints", x.row(2, 2, 1), 1);
        Due.is("a byte of it", x.set(0, 0, 0x12348765), 0x65);
        Due.is("a short of it", x.set(1, 0, 0x12348765), 0x8765 - 0x10000);
        Due.is("an int of it", x.set(2, 0, 0x12348765), 0x12348765);
        int[] none = {-1, 3, Due.LEAST, Due.MOST};
        for (int lane : none) {
            Due.is("no lane " + lane, x.row(3, lane, 1), Due.BAD);
        }
        Due.is("rows there are", x.count(0), 3);
    }

    private static void lengths() {
        Due.sentence("and 0 to 40 ITEMS");
        WeirWords x = new WeirWords();
        Due.is("of none", x.row(0, 2, 0), 0);
        Due.is("it is there", x.count(0), 1);
        Due.is("no place in it", x.set(0, 0, 1), Due.PLACE);
        Due.is("of 40", x.row(1, 2, 40), 40);
        Due.is("the last place", x.set(1, 39, 7), 7);
        Due.is("the one beyond", x.set(1, 40, 7), Due.PLACE);
        Due.is("of 41", x.row(2, 2, 41), Due.BAD);
        Due.is("of the most", x.row(2, 2, Due.MOST), Due.BAD);
        Due.is("it is not there", x.drop(2), Due.NULL);
    }

    private static void itemsAtFirst() {
        Due.sentence("0 at first");
        WeirWords x = Due.with(Due.STILL);
        x.row(4, 2, 3);
        Due.items("new", x, 4, 0, 0, 0);
        Due.fill(x, 4, 5, 6, 7);
        x.row(4, 2, 3);
        Due.items("in place of another", x, 4, 0, 0, 0);
        Due.fill(x, 4, 5, 6, 7);
        x.drop(4);
        x.row(4, 1, 3);
        Due.items("after one was missing", x, 4, 0, 0, 0);
        Due.fill(x, 4, 5, 6, 7);
        x.row(4, 2, 1);
        x.row(4, 2, 3);
        Due.items("longer than the one before", x, 4, 0, 0, 0);
    }

    private static void row() {
        Due.sentence("row: A ROW of a LANE with n ITEMS, in place of what is there: n.");
        WeirWords x = Due.with(Due.STILL);
        Due.fill(x, 0, 1, 2, 3);
        Due.is("a shorter one", x.row(0, 0, 2), 2);
        Due.is("its length", x.set(0, 2, 1), Due.PLACE);
        Due.is("its lane", x.set(0, 1, 300), 44);
        Due.is("still one row", x.count(0), 1);
        Due.sentence("row: BAD: ROW, LANE, n above 40; SIZE.");
        Due.is("no row", x.row(8, 0, 1), Due.BAD);
        Due.is("no lane", x.row(0, 3, 1), Due.BAD);
        Due.is("41", x.row(0, 0, 41), Due.BAD);
        Due.is("fewer than none", x.row(0, 0, -1), Due.SIZE);
        Due.is("status()", x.status(), 4);
        Due.is("the least", x.row(0, 0, Due.LEAST), Due.SIZE);
        Due.is("of a row that is missing", x.row(5, 0, -1), Due.SIZE);
        Due.is("it is missing yet", x.drop(5), Due.NULL);
        Due.is("the one there stays", x.drop(0), 2);
    }

    private static void set() {
        Due.sentence("set: ITEM i becomes v, its lowest bits, as many as the LANE has (read with their sign)");
        WeirWords x = Due.with(Due.STILL);
        x.row(0, 0, 2);
        int[][] bytes = {{127, 127}, {128, -128}, {-128, -128}, {-129, 127}, {255, -1}, {256, 0}, {261, 5},
            {Due.MOST, -1}, {Due.LEAST, 0}, {32768, 0}};
        for (int[] v : bytes) {
            Due.is("byte " + v[0], x.set(0, 0, v[0]), v[1]);
        }
        x.row(1, 1, 2);
        int[][] shorts = {{32767, 32767}, {32768, -32768}, {-32768, -32768}, {-32769, 32767}, {65535, -1}, {65536, 0},
            {128, 128}, {Due.MOST, -1}, {Due.LEAST, 0}};
        for (int[] v : shorts) {
            Due.is("short " + v[0], x.set(1, 0, v[0]), v[1]);
        }
        x.row(2, 2, 2);
        int[] ints = {Due.MOST, Due.LEAST, -1, 0, 65536, 32768};
        for (int v : ints) {
            Due.is("int " + v, x.set(2, 0, v), v);
        }
        Due.sentence("set: what it is then.");
        x.set(0, 1, 256 * 3 + 9);
        x.set(1, 1, 65536 * 3 + 10);
        x.set(2, 1, 11);
        Due.is("the byte", x.fits(0, 0, 1, 1, 1), 1 << 9);
        Due.is("the short", x.fits(0, 1, 1, 1, 1), 1 << 10);
        Due.is("the int", x.fits(0, 2, 1, 1, 1), 1 << 11);
        Due.sentence("set: BAD: ROW; NULL; PLACE.");
        Due.is("no row", x.set(8, 0, 0), Due.BAD);
        Due.is("a missing one", x.set(3, 0, 0), Due.NULL);
        Due.is("status()", x.status(), 1);
        int[] places = {-1, 2, Due.LEAST, Due.MOST};
        for (int i : places) {
            Due.is("place " + i, x.set(0, i, 0), Due.PLACE);
            Due.is("status()", x.status(), 2);
        }
    }

    private static void copy() {
        Due.sentence("copy: n ITEMS of a from i on come to b from j on");
        WeirWords x = Due.with(Due.STILL);
        Due.fill(x, 0, 1, 2, 3, 4);
        Due.fill(x, 1, 9, 9, 9, 9, 9);
        Due.is("two", x.copy(0, 1, 1, 2, 2), 2);
        Due.items("to", x, 1, 9, 9, 2, 3, 9);
        Due.items("from", x, 0, 1, 2, 3, 4);
        Due.is("up to both ends", x.copy(0, 0, 1, 1, 4), 4);
        Due.items("to", x, 1, 9, 1, 2, 3, 4);
        Due.is("none", x.copy(0, 0, 1, 0, 0), 0);
        Due.is("none, at both ends", x.copy(0, 4, 1, 5, 0), 0);
        Due.items("to", x, 1, 9, 1, 2, 3, 4);
        x.row(2, 2, 0);
        Due.is("none of none", x.copy(2, 0, 2, 0, 0), 0);
        Due.sentence("copy: PLACE (i, j, n below 0, or beyond an end).");
        Due.is("i below 0", x.copy(0, -1, 1, 0, 1), Due.PLACE);
        Due.is("status()", x.status(), 2);
        Due.is("j below 0", x.copy(0, 0, 1, -1, 1), Due.PLACE);
        Due.is("n below 0", x.copy(0, 1, 1, 1, -1), Due.PLACE);
        Due.is("i below 0, of none", x.copy(0, -1, 1, 0, 0), Due.PLACE);
        Due.is("j below 0, of none", x.copy(0, 0, 1, -1, 0), Due.PLACE);
        Due.is("beyond a's end", x.copy(0, 1, 1, 0, 4), Due.PLACE);
        Due.is("beyond b's end", x.copy(0, 0, 1, 2, 4), Due.PLACE);
        Due.is("beyond a's end, of none", x.copy(0, 5, 1, 0, 0), Due.PLACE);
        Due.is("beyond b's end, of none", x.copy(0, 0, 1, 6, 0), Due.PLACE);
        Due.is("so many that i and n wrap around", x.copy(0, 4, 1, 0, Due.MOST), Due.PLACE);
        Due.is("so many that j and n wrap around", x.copy(0, 0, 1, 4, Due.MOST), Due.PLACE);
        Due.is("so far that i and n wrap around", x.copy(0, Due.MOST, 1, 0, 4), Due.PLACE);
        Due.is("so far that j and n wrap around", x.copy(0, 0, 1, Due.MOST, 4), Due.PLACE);
        Due.is("the least i", x.copy(0, Due.LEAST, 1, 0, 1), Due.PLACE);
        Due.is("the least j", x.copy(0, 0, 1, Due.LEAST, 1), Due.PLACE);
        Due.is("the least n", x.copy(0, 0, 1, 0, Due.LEAST), Due.PLACE);
        Due.items("all stays", x, 1, 9, 1, 2, 3, 4);
        Due.sentence("copy: BAD: ROWS; NULL; STORE;");
        x.row(3, 1, 4);
        Due.is("no row a", x.copy(8, 0, 0, 0, 1), Due.BAD);
        Due.is("no row b", x.copy(0, 0, -1, 0, 1), Due.BAD);
        Due.is("a is missing", x.copy(7, 0, 0, 0, 1), Due.NULL);
        Due.is("status()", x.status(), 1);
        Due.is("b is missing", x.copy(0, 0, 7, 0, 1), Due.NULL);
        Due.is("none of a missing one", x.copy(7, 0, 0, 0, 0), Due.NULL);
        Due.is("ints to shorts", x.copy(0, 0, 3, 0, 1), Due.STORE);
        Due.is("status()", x.status(), 5);
        Due.is("shorts to ints", x.copy(3, 0, 0, 0, 1), Due.STORE);
        Due.is("none of another lane", x.copy(3, 0, 0, 0, 0), Due.STORE);
        x.row(4, 0, 4);
        Due.is("shorts to bytes", x.copy(3, 0, 4, 0, 1), Due.STORE);
    }

    private static void copyWithinOne() {
        Due.sentence("copy: as they were ahead: n.");
        WeirWords x = Due.with(Due.STILL);
        Due.fill(x, 0, 1, 2, 3, 4, 5);
        Due.is("down", x.copy(0, 0, 0, 1, 4), 4);
        Due.items("down", x, 0, 1, 1, 2, 3, 4);
        Due.fill(x, 0, 1, 2, 3, 4, 5);
        Due.is("up", x.copy(0, 1, 0, 0, 4), 4);
        Due.items("up", x, 0, 2, 3, 4, 5, 5);
        Due.is("on itself", x.copy(0, 0, 0, 0, 5), 5);
        Due.items("on itself", x, 0, 2, 3, 4, 5, 5);
    }

    private static void drop() {
        Due.sentence("drop: A ROW is missing from now on: how many ITEMS it had.");
        WeirWords x = new WeirWords();
        x.row(0, 0, 40);
        x.row(1, 1, 0);
        Due.is("of 40", x.drop(0), 40);
        Due.is("rows there are", x.count(0), 1);
        Due.is("of none", x.drop(1), 0);
        Due.is("rows there are", x.count(0), 0);
        Due.is("set", x.set(0, 0, 1), Due.NULL);
        Due.is("copy", x.copy(0, 0, 0, 0, 0), Due.NULL);
        Due.is("made anew", x.row(0, 0, 2), 2);
        Due.is("set", x.set(0, 1, 1), 1);
        Due.sentence("drop: BAD; NULL.");
        Due.is("no row", x.drop(8), Due.BAD);
        Due.is("no row", x.drop(-1), Due.BAD);
        Due.is("a missing one", x.drop(1), Due.NULL);
        Due.is("status()", x.status(), 1);
    }
}
