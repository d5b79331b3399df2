/** Promises 2 to 5, and what count(0) and status() tell of rows. */
public final class RowsTest {
    private static final Check CHECK = new Check();

    public static void main(String[] args) {
        row();
        newItemsAre0();
        set();
        copy();
        drop();
        status();
        CHECK.end();
    }

    private static void row() {
        ProphetFines x = new ProphetFines();
        CHECK.due("a row of none", x.row(0, 0, 0), 0);
        CHECK.due("a row of all", x.row(7, 2, 40), 40);
        CHECK.due("two rows are there", x.count(0), 2);
        CHECK.due("row -1", x.row(-1, 0, 1), Check.BAD);
        CHECK.due("row 8", x.row(8, 0, 1), Check.BAD);
        CHECK.due("lane -1", x.row(1, -1, 1), Check.BAD);
        CHECK.due("lane 3", x.row(1, 3, 1), Check.BAD);
        CHECK.due("41 items", x.row(1, 0, 41), Check.BAD);
        CHECK.due("the most items", x.row(1, 0, Integer.MAX_VALUE), Check.BAD);
        CHECK.due("fewer than none", x.row(1, 0, -1), Check.SIZE);
        CHECK.due("the fewest", x.row(1, 0, Integer.MIN_VALUE), Check.SIZE);
        CHECK.due("BAD goes ahead of SIZE", x.row(1, 3, -1), Check.BAD);
        CHECK.due("what is refused makes no row", x.count(0), 2);
        x.row(2, 2, 3);
        x.set(2, 1, 77);
        CHECK.due("SIZE", x.row(2, 2, -1), Check.SIZE);
        x.row(3, 2, 3);
        CHECK.due("the old row stays after SIZE", x.copy(2, 0, 3, 0, 3), 3);
        CHECK.due("in place of what is there", x.row(2, 1, 2), 2);
        CHECK.due("its lane is new", x.copy(2, 0, 3, 0, 1), Check.STORE);
        CHECK.due("its size is new", x.set(2, 2, 1), Check.PLACE);
        CHECK.due("still four rows", x.count(0), 4);
    }

    private static void newItemsAre0() {
        ProphetFines x = Check.reader();
        x.row(0, 2, 3);
        CHECK.dueItems(x, "new", 0, 0, 0, 0);
        Check.fill(x, 0, 5, 6, 7);
        CHECK.dueItems(x, "filled", 0, 5, 6, 7);
        x.row(0, 2, 3);
        CHECK.dueItems(x, "made anew", 0, 0, 0, 0);
        Check.fill(x, 0, 5, 6, 7);
        x.row(0, 2, 1);
        x.row(0, 2, 3);
        CHECK.dueItems(x, "shorter, then longer", 0, 0, 0, 0);
    }

    private static void set() {
        ProphetFines x = new ProphetFines();
        x.row(0, 0, 3);
        x.row(1, 1, 3);
        x.row(2, 2, 3);
        CHECK.due("byte 127", x.set(0, 0, 127), 127);
        CHECK.due("byte 128", x.set(0, 0, 128), -128);
        CHECK.due("byte 256", x.set(0, 2, 256), 0);
        CHECK.due("byte -129", x.set(0, 2, -129), 127);
        CHECK.due("short 32767", x.set(1, 0, 32767), 32767);
        CHECK.due("short 32768", x.set(1, 0, 32768), -32768);
        CHECK.due("short 65537", x.set(1, 0, 65537), 1);
        CHECK.due("int", x.set(2, 0, Integer.MIN_VALUE), Integer.MIN_VALUE);
        CHECK.due("int", x.set(2, 2, Integer.MAX_VALUE), Integer.MAX_VALUE);
        CHECK.due("row 8", x.set(8, 0, 1), Check.BAD);
        CHECK.due("row -1", x.set(-1, 0, 1), Check.BAD);
        CHECK.due("a missing row", x.set(3, 0, 1), Check.NULL);
        CHECK.due("a missing row, no place", x.set(3, -1, 1), Check.NULL);
        CHECK.due("place -1", x.set(0, -1, 1), Check.PLACE);
        CHECK.due("place 3", x.set(0, 3, 1), Check.PLACE);
        CHECK.due("the last place of all", x.set(0, Integer.MAX_VALUE, 1), Check.PLACE);
        CHECK.due("the first place of all", x.set(0, Integer.MIN_VALUE, 1), Check.PLACE);
    }

    private static void copy() {
        ProphetFines x = Check.reader();
        Check.fill(x, 0, 1, 2, 3, 4, 5);
        CHECK.due("upwards, over itself", x.copy(0, 0, 0, 1, 4), 4);
        CHECK.dueItems(x, "upwards", 0, 1, 1, 2, 3, 4);
        CHECK.due("downwards, over itself", x.copy(0, 1, 0, 0, 4), 4);
        CHECK.dueItems(x, "downwards", 0, 1, 2, 3, 4, 4);
        Check.fill(x, 1, 9, 9, 9);
        CHECK.due("to another", x.copy(0, 2, 1, 1, 2), 2);
        CHECK.dueItems(x, "to another", 1, 9, 3, 4);
        CHECK.dueItems(x, "the first stays", 0, 1, 2, 3, 4, 4);
        CHECK.due("none", x.copy(0, 5, 1, 3, 0), 0);
        CHECK.due("row 8", x.copy(8, 0, 1, 0, 1), Check.BAD);
        CHECK.due("row -1", x.copy(0, 0, -1, 0, 1), Check.BAD);
        CHECK.due("BAD goes ahead of NULL", x.copy(5, 0, 8, 0, 1), Check.BAD);
        CHECK.due("from a missing one", x.copy(5, 0, 1, 0, 1), Check.NULL);
        CHECK.due("to a missing one", x.copy(1, 0, 5, 0, 1), Check.NULL);
        CHECK.due("NULL goes ahead of PLACE", x.copy(1, -1, 5, 0, 1), Check.NULL);
        x.row(2, 1, 3);
        CHECK.due("two lanes", x.copy(1, 0, 2, 0, 1), Check.STORE);
        CHECK.due("two lanes, none", x.copy(1, 0, 2, 0, 0), Check.STORE);
        CHECK.due("STORE goes ahead of PLACE", x.copy(1, -1, 2, 0, 1), Check.STORE);
        CHECK.due("i below 0", x.copy(0, -1, 1, 0, 1), Check.PLACE);
        CHECK.due("j below 0", x.copy(0, 0, 1, -1, 1), Check.PLACE);
        CHECK.due("n below 0", x.copy(0, 0, 1, 0, -1), Check.PLACE);
        CHECK.due("beyond the end of a", x.copy(1, 1, 0, 0, 3), Check.PLACE);
        CHECK.due("beyond the end of b", x.copy(0, 0, 1, 1, 3), Check.PLACE);
        CHECK.due("none beyond the end of a", x.copy(0, 6, 1, 0, 0), Check.PLACE);
        CHECK.due("none beyond the end of b", x.copy(0, 0, 1, 4, 0), Check.PLACE);
        CHECK.due("a sum that wraps", x.copy(0, Integer.MAX_VALUE, 1, 0, Integer.MAX_VALUE), Check.PLACE);
        CHECK.due("a sum that wraps", x.copy(0, 1, 1, 0, Integer.MAX_VALUE), Check.PLACE);
        CHECK.due("the least of all", x.copy(0, Integer.MIN_VALUE, 1, Integer.MIN_VALUE, Integer.MIN_VALUE), Check.PLACE);
        CHECK.dueItems(x, "what is found changes nothing", 0, 1, 2, 3, 4, 4);
        CHECK.dueItems(x, "what is found changes nothing", 1, 9, 3, 4);
    }

    private static void drop() {
        ProphetFines x = new ProphetFines();
        x.row(0, 0, 7);
        x.row(1, 0, 0);
        CHECK.due("seven items", x.drop(0), 7);
        CHECK.due("one row is left", x.count(0), 1);
        CHECK.due("no items", x.drop(1), 0);
        CHECK.due("none is left", x.count(0), 0);
        CHECK.due("dropped already", x.drop(0), Check.NULL);
        CHECK.due("missing from now on", x.set(0, 0, 1), Check.NULL);
        CHECK.due("row 8", x.drop(8), Check.BAD);
        CHECK.due("row -1", x.drop(-1), Check.BAD);
        CHECK.due("made again", x.row(0, 1, 2), 2);
        CHECK.due("is there", x.set(0, 1, 4), 4);
    }

    private static void status() {
        ProphetFines x = new ProphetFines();
        CHECK.due("no call yet", x.status(), 0);
        x.row(0, 0, -1);
        CHECK.due("SIZE", x.status(), 4);
        x.row(0, 9, 1);
        CHECK.due("BAD leaves it", x.status(), 4);
        x.set(0, 0, 1);
        CHECK.due("NULL", x.status(), 1);
        x.could(0, 0, 0);
        CHECK.due("STATE leaves it", x.status(), 1);
        x.feed('f');
        x.republic();
        CHECK.due("calls without a row leave it", x.status(), 1);
        x.row(0, 0, 1);
        CHECK.due("none", x.status(), 0);
        x.set(0, 1, 1);
        CHECK.due("PLACE", x.status(), 2);
        x.set(0, 0, 1);
        CHECK.due("set: none", x.status(), 0);
        x.row(1, 1, 1);
        x.copy(0, 0, 1, 0, 1);
        CHECK.due("STORE", x.status(), 5);
        x.copy(0, 0, 0, 0, 1);
        CHECK.due("copy: none", x.status(), 0);
        x.drop(2);
        CHECK.due("drop: NULL", x.status(), 1);
        x.drop(1);
        CHECK.due("drop: none", x.status(), 0);
    }
}
