/** Part 1 of the document and promises 2 to 5: each sentence that names an edge of ROWS, LANES and ITEMS. */
public final class RowEdgesTest {
    private static final Check CHECK = new Check();
    private static final int ROWS = 8, LANES = 3, MOST = 40;
    private static final int MIN = Integer.MIN_VALUE, MAX = Integer.MAX_VALUE;

    public static void main(String[] args) {
        rowsAreMissingAtFirst();
        rowsGoFrom0To7();
        lanesGoFrom0To2();
        itemsGoFrom0To40();
        itemsAre0AtFirst();
        rowInPlaceOfWhatIsThere();
        lowestBitsOfBytes();
        lowestBitsOfShorts();
        lowestBitsOfInts();
        copyKeepsLowestBits();
        setOneItemAlone();
        setPlaces();
        copyAsTheyWereAhead();
        copyStore();
        copyPlaces();
        copyOfNone();
        copyOfAll();
        dropTellsHowMany();
        dropMakesMissing();
        CHECK.end();
    }

    private static void rowsAreMissingAtFirst() {
        CHECK.says("ROWS 0 .. 7 are missing (at first)");
        ProphetFines x = Check.reader();
        CHECK.due("count(0)", x.count(0), 0);
        for (int row = 0; row < ROWS; row++) {
            CHECK.due("set(" + row + ")", x.set(row, 0, 0), Check.NULL);
            CHECK.due("copy from " + row, x.copy(row, 0, row, 0, 0), Check.NULL);
            CHECK.due("could(" + row + ")", x.could(row, 0, 0), Check.NULL);
            CHECK.due("drop(" + row + ")", x.drop(row), Check.NULL);
        }
        CHECK.due("count(0) still", x.count(0), 0);
    }

    private static void rowsGoFrom0To7() {
        CHECK.says("ROWS 0 .. 7");
        ProphetFines x = Check.reader();
        for (int row = 0; row < ROWS; row++) {
            CHECK.due("row(" + row + ")", x.row(row, 2, 2), 2);
            CHECK.due("rows that are there", x.count(0), row + 1);
        }
        for (int row = 0; row < ROWS; row++) {
            CHECK.due("set(" + row + ")", x.set(row, 1, row + 1), row + 1);
        }
        for (int row = 0; row < ROWS; row++) {
            CHECK.dueItems(x, "row " + row + " has items of its own", row, 0, row + 1);
        }
        for (int no : new int[] {MIN, -1, 8, MAX}) {
            CHECK.due("row(" + no + ")", x.row(no, 0, 1), Check.BAD);
            CHECK.due("set(" + no + ")", x.set(no, 0, 1), Check.BAD);
            CHECK.due("copy from " + no, x.copy(no, 0, 0, 0, 1), Check.BAD);
            CHECK.due("copy to " + no, x.copy(0, 0, no, 0, 1), Check.BAD);
            CHECK.due("drop(" + no + ")", x.drop(no), Check.BAD);
            CHECK.due("could(" + no + ")", x.could(no, 0, 0), Check.BAD);
        }
        CHECK.due("still eight", x.count(0), ROWS);
    }

    private static void lanesGoFrom0To2() {
        CHECK.says("have a LANE (0 bytes, 1 shorts, 2 ints)");
        ProphetFines x = new ProphetFines();
        int[] cut = {-1, 65535 - 65536, 16777215};
        for (int lane = 0; lane < LANES; lane++) {
            CHECK.due("lane " + lane, x.row(lane, lane, 1), 1);
            CHECK.due("its bits", x.set(lane, 0, 16777215), cut[lane]);
        }
        for (int no : new int[] {MIN, -1, 3, MAX}) {
            CHECK.due("lane " + no, x.row(0, no, 1), Check.BAD);
        }
        CHECK.due("row 0 is of bytes still", x.set(0, 0, 255), -1);
    }

    private static void itemsGoFrom0To40() {
        CHECK.says("0 to 40 ITEMS");
        ProphetFines x = new ProphetFines();
        for (int n = 0; n <= MOST; n++) {
            CHECK.due("row of " + n, x.row(n % ROWS, n % LANES, n), n);
            CHECK.due("no place " + n, x.set(n % ROWS, n, 1), Check.PLACE);
            if (n > 0) {
                CHECK.due("the last of " + n, x.set(n % ROWS, n - 1, 1), 1);
            }
            CHECK.due("it had", x.drop(n % ROWS), n);
        }
        CHECK.says("BAD: ROW, LANE, n above 40; SIZE");
        for (int n : new int[] {41, 42, 1000, MAX}) {
            CHECK.due("row of " + n, x.row(0, 0, n), Check.BAD);
        }
        for (int n : new int[] {-1, -2, -1000, MIN}) {
            CHECK.due("row of " + n, x.row(0, 0, n), Check.SIZE);
        }
        CHECK.due("none of these is there", x.count(0), 0);
    }

    private static void itemsAre0AtFirst() {
        CHECK.says("ITEMS, 0 at first");
        ProphetFines x = Check.reader();
        x.row(0, 2, MOST);
        CHECK.dueItems(x, "new", 0, new int[MOST]);
        for (int i = 0; i < MOST; i++) {
            x.set(0, i, 7);
        }
        x.row(0, 1, MOST);
        CHECK.dueItems(x, "made anew", 0, new int[MOST]);
        ProphetFines y = Check.reader();
        y.row(7, 0, 3);
        y.set(7, 2, 5);
        y.drop(7);
        y.row(7, 0, 3);
        CHECK.dueItems(y, "dropped, then made", 7, 0, 0, 0);
    }

    private static void rowInPlaceOfWhatIsThere() {
        CHECK.says("A ROW of a LANE with n ITEMS, in place of what is there: n");
        ProphetFines x = Check.reader();
        x.row(3, 2, 3);
        x.set(3, 0, 4);
        x.set(3, 2, 6);
        CHECK.due("a shorter one of shorts", x.row(3, 1, 2), 2);
        CHECK.due("its lane", x.set(3, 1, 65536 + 9), 9);
        CHECK.dueItems(x, "shorter", 3, 0, 9);
        CHECK.due("a longer one", x.row(3, 2, 4), 4);
        CHECK.dueItems(x, "longer", 3, 0, 0, 0, 0);
        CHECK.due("one of none", x.row(3, 2, 0), 0);
        CHECK.dueItems(x, "of none", 3);
        CHECK.due("one row in all", x.count(0), 1);
    }

    private static void expectCut(ProphetFines x, int row, int... toldAndDue) {
        for (int k = 0; k < toldAndDue.length; k += 2) {
            CHECK.due("set to " + toldAndDue[k], x.set(row, 1, toldAndDue[k]), toldAndDue[k + 1]);
        }
    }

    private static void lowestBitsOfBytes() {
        CHECK.says("its lowest bits, as many as the LANE has: what it is then [bytes]");
        ProphetFines x = new ProphetFines();
        x.row(0, 0, 2);
        expectCut(x, 0, 0, 0, 1, 1, -1, -1, 127, 127, 128, -128, 129, -127, 255, -1, 256, 0, 257, 1);
        expectCut(x, 0, -127, -127, -128, -128, -129, 127, -255, 1, -256, 0, -257, -1);
        expectCut(x, 0, 32767, -1, 32768, 0, 65407, 127, MAX, -1, MAX - 1, -2, MIN, 0, MIN + 1, 1, MIN + 128, -128);
    }

    private static void lowestBitsOfShorts() {
        CHECK.says("its lowest bits, as many as the LANE has: what it is then [shorts]");
        ProphetFines x = new ProphetFines();
        x.row(0, 1, 2);
        expectCut(x, 0, 0, 0, -1, -1, 127, 127, 128, 128, 255, 255, 256, 256, -129, -129);
        expectCut(x, 0, 32767, 32767, 32768, -32768, 32769, -32767, 65535, -1, 65536, 0, 65537, 1);
        expectCut(x, 0, -32767, -32767, -32768, -32768, -32769, 32767, -65535, 1, -65536, 0, -65537, -1);
        expectCut(x, 0, MAX, -1, MAX - 1, -2, MIN, 0, MIN + 1, 1, MIN + 32768, -32768);
    }

    private static void lowestBitsOfInts() {
        CHECK.says("its lowest bits, as many as the LANE has: what it is then [ints]");
        ProphetFines x = new ProphetFines();
        x.row(0, 2, 2);
        for (int v : new int[] {0, 1, -1, 128, 255, 256, -129, 32768, 65535, 65536, -32769, MAX, MAX - 1, MIN, MIN + 1}) {
            expectCut(x, 0, v, v);
        }
    }

    /** 254 is -2 as a byte, below what could() takes; 255 is -1, which tells nothing; 256 is 0. */
    private static void copyKeepsLowestBits() {
        CHECK.says("ITEM i becomes v, its lowest bits [as could() and copy() find it then]");
        ProphetFines x = Check.reader();
        for (int lane = 0; lane < LANES; lane++) {
            int more = lane == 0 ? 256 : lane == 1 ? 65536 : 0;
            x.row(0, lane, 4);
            x.row(1, lane, 4);
            x.set(0, 0, more - 2);
            x.set(0, 1, more - 1);
            x.set(0, 2, more);
            x.set(0, 3, more + 31);
            CHECK.dueItems(x, "lane " + lane, 0, Check.BAD, -1, 0, 31);
            x.copy(0, 0, 1, 0, 4);
            CHECK.dueItems(x, "copied in lane " + lane, 1, Check.BAD, -1, 0, 31);
        }
    }

    private static void setOneItemAlone() {
        CHECK.says("ITEM i becomes v");
        ProphetFines x = Check.reader();
        Check.fill(x, 0, 1, 2, 3);
        Check.fill(x, 1, 4, 5, 6);
        x.set(0, 0, 10);
        CHECK.dueItems(x, "the first", 0, 10, 2, 3);
        x.set(0, 2, 12);
        CHECK.dueItems(x, "the last", 0, 10, 2, 12);
        CHECK.dueItems(x, "another row", 1, 4, 5, 6);
    }

    private static void setPlaces() {
        CHECK.says("what it is then. BAD: ROW; NULL; PLACE");
        ProphetFines x = Check.reader();
        Check.fill(x, 0, 1, 2, 3);
        x.row(1, 0, 0);
        for (int no : new int[] {MIN, -1, 3, 40, MAX}) {
            CHECK.due("place " + no, x.set(0, no, 9), Check.PLACE);
        }
        for (int no : new int[] {MIN, -1, 0, 1, MAX}) {
            CHECK.due("place " + no + " of none", x.set(1, no, 9), Check.PLACE);
        }
        CHECK.due("place 0 of a missing one", x.set(2, 0, 9), Check.NULL);
        CHECK.dueItems(x, "nothing has changed", 0, 1, 2, 3);
        CHECK.due("the first place", x.set(0, 0, 9), 9);
        CHECK.due("the last place", x.set(0, 2, 9), 9);
    }

    private static void copyAsTheyWereAhead() {
        CHECK.says("n ITEMS of a from i on come to b from j on, as they were ahead");
        for (int lane = 0; lane < LANES; lane++) {
            ProphetFines x = Check.reader();
            x.row(0, lane, 6);
            for (int i = 0; i < 6; i++) {
                x.set(0, i, i + 1);
            }
            CHECK.due("one place up", x.copy(0, 0, 0, 1, 5), 5);
            CHECK.dueItems(x, "one place up", 0, 1, 1, 2, 3, 4, 5);
            CHECK.due("two places down", x.copy(0, 2, 0, 0, 4), 4);
            CHECK.dueItems(x, "two places down", 0, 2, 3, 4, 5, 4, 5);
            CHECK.due("onto itself", x.copy(0, 1, 0, 1, 3), 3);
            CHECK.dueItems(x, "onto itself", 0, 2, 3, 4, 5, 4, 5);
            x.row(1, lane, 3);
            CHECK.due("to another", x.copy(0, 3, 1, 1, 1), 1);
            CHECK.dueItems(x, "to another", 1, 0, 5, 0);
            CHECK.dueItems(x, "from there", 0, 2, 3, 4, 5, 4, 5);
        }
    }

    private static void copyStore() {
        CHECK.says("5 STORE (ROWS of two LANES)");
        ProphetFines x = Check.reader();
        for (int lane = 0; lane < LANES; lane++) {
            x.row(lane, lane, 2);
            x.row(LANES + lane, lane, 2);
            x.set(lane, 0, lane + 1);
        }
        for (int a = 0; a < LANES; a++) {
            for (int b = 0; b < LANES; b++) {
                CHECK.due("lane " + a + " to " + b, x.copy(a, 0, LANES + b, 0, 1), a == b ? 1 : Check.STORE);
                CHECK.due("status", x.status(), a == b ? 0 : 5);
                CHECK.due("none, lane " + a + " to " + b, x.copy(a, 0, LANES + b, 0, 0), a == b ? 0 : Check.STORE);
            }
        }
        for (int b = 0; b < LANES; b++) {
            CHECK.dueItems(x, "of its own lane alone", LANES + b, b + 1, 0);
        }
    }

    private static void copyPlaces() {
        CHECK.says("PLACE (i, j, n below 0, or beyond an end)");
        ProphetFines x = Check.reader();
        Check.fill(x, 0, 1, 2, 3, 4, 5);
        Check.fill(x, 1, 6, 7, 8);
        int[][] found = {
            {-1, 0, 1}, {0, -1, 1}, {0, 0, -1}, {-1, 0, 0}, {0, -1, 0}, {-1, -1, -1}, {-1, 0, 2}, {0, -1, 2},
            {3, 0, 3}, {4, 0, 2}, {5, 0, 1}, {6, 0, 0}, {0, 0, 4}, {0, 1, 3}, {0, 2, 2}, {0, 3, 1}, {0, 4, 0},
            {1, 0, -1}, {5, 3, -1}, {2, 2, -2}, {0, 0, 6}, {0, 0, MAX}, {0, 0, MIN}, {MAX, 0, 0}, {0, MAX, 0},
            {MIN, 0, 0}, {0, MIN, 0}, {MAX, 0, 1}, {0, MAX, 1}, {1, 1, MAX}, {MAX, MAX, MAX}, {MIN, MIN, MIN},
            {MIN, 0, MIN}, {0, MIN, MIN}, {MAX, 0, MIN}, {MIN, MAX, MAX}, {1, 0, MIN}};
        for (int[] f : found) {
            String name = "copy(0, " + f[0] + ", 1, " + f[1] + ", " + f[2] + ")";
            CHECK.due(name, x.copy(0, f[0], 1, f[1], f[2]), Check.PLACE);
        }
        CHECK.dueItems(x, "a is as it was", 0, 1, 2, 3, 4, 5);
        CHECK.dueItems(x, "b is as it was", 1, 6, 7, 8);
        CHECK.due("up to both ends", x.copy(0, 2, 1, 0, 3), 3);
        CHECK.dueItems(x, "up to both ends", 1, 3, 4, 5);
        CHECK.due("the last to the last", x.copy(0, 4, 1, 2, 1), 1);
        CHECK.due("beyond the end of a, though b has room", x.copy(1, 1, 0, 0, 3), Check.PLACE);
        CHECK.due("up to the end of a, b has room", x.copy(1, 1, 0, 0, 2), 2);
        CHECK.dueItems(x, "up to the end of a", 0, 4, 5, 3, 4, 5);
    }

    private static void copyOfNone() {
        CHECK.says("n ITEMS of a from i on come to b from j on [none of them]");
        ProphetFines x = Check.reader();
        Check.fill(x, 0, 1, 2);
        x.row(1, 2, 0);
        CHECK.due("from the end to the end", x.copy(0, 2, 0, 2, 0), 0);
        CHECK.due("between rows of none", x.copy(1, 0, 1, 0, 0), 0);
        CHECK.due("from a row of none", x.copy(1, 0, 0, 1, 0), 0);
        CHECK.due("no finding", x.status(), 0);
        CHECK.due("one of none", x.copy(1, 0, 0, 0, 1), Check.PLACE);
        CHECK.due("one to none", x.copy(0, 0, 1, 0, 1), Check.PLACE);
        CHECK.dueItems(x, "nothing has changed", 0, 1, 2);
    }

    private static void copyOfAll() {
        CHECK.says("n ITEMS of a from i on come to b from j on [all 40]");
        ProphetFines x = Check.reader();
        x.row(0, 2, MOST);
        x.row(7, 2, MOST);
        int[] due = new int[MOST];
        for (int i = 0; i < MOST; i++) {
            due[i] = i % 32;
            x.set(0, i, due[i]);
        }
        CHECK.due("all", x.copy(0, 0, 7, 0, MOST), MOST);
        CHECK.due("one more", x.copy(0, 0, 7, 0, MOST + 1), Check.PLACE);
        CHECK.due("all, one place on", x.copy(0, 1, 7, 0, MOST), Check.PLACE);
        CHECK.dueItems(x, "all", 7, due);
    }

    private static void dropTellsHowMany() {
        CHECK.says("how many ITEMS it had. BAD; NULL");
        ProphetFines x = new ProphetFines();
        for (int row = 0; row < ROWS; row++) {
            x.row(row, row % LANES, row * 5);
        }
        x.row(7, 0, MOST);
        for (int row = 0; row < ROWS; row++) {
            CHECK.due("drop(" + row + ")", x.drop(row), row == 7 ? MOST : row * 5);
            CHECK.due("rows that are there", x.count(0), ROWS - 1 - row);
            CHECK.due("drop(" + row + ") again", x.drop(row), Check.NULL);
            CHECK.due("rows that are there still", x.count(0), ROWS - 1 - row);
        }
    }

    private static void dropMakesMissing() {
        CHECK.says("A ROW is missing from now on");
        ProphetFines x = Check.reader();
        Check.fill(x, 0, 1, 2);
        Check.fill(x, 1, 3, 4);
        x.drop(0);
        CHECK.due("set", x.set(0, 0, 1), Check.NULL);
        CHECK.due("copy from it", x.copy(0, 0, 1, 0, 1), Check.NULL);
        CHECK.due("copy to it", x.copy(1, 0, 0, 0, 1), Check.NULL);
        CHECK.due("could", x.could(0, 0, 0), Check.NULL);
        CHECK.due("drop", x.drop(0), Check.NULL);
        CHECK.dueItems(x, "another row stays", 1, 3, 4);
        x.row(0, 2, 2);
        CHECK.dueItems(x, "made again", 0, 0, 0);
    }
}
