/** What the tests share: answers that are due, counted, and republics told in one go. */
final class Check {
    static final int NONE = -1000000, BAD = -1000001, STATE = -1000002, FULL = -1000003;
    static final int NULL = -1000011, PLACE = -1000012, KIND = -1000013, SIZE = -1000014, STORE = -1000015;
    private static final int MOST_SHOWN = 20;

    private int checked = 0;
    private int wrong = 0;
    private String sentence = "";

    /** What is checked from here on is this sentence of the document. */
    void says(String words) {
        sentence = "'" + words + "': ";
    }

    void due(String call, long got, long want) {
        checked++;
        if (got != want) {
            wrong++;
            if (wrong <= MOST_SHOWN) {
                System.out.println(sentence + call + " answered " + got + ", due is " + want);
            }
        }
    }

    void holds(String what, boolean isSo) {
        due(what, isSo ? 1 : 0, 1);
    }

    void end() {
        System.out.println(checked + " answers, " + wrong + " not as due");
        if (wrong != 0 || checked == 0) {
            System.exit(1);
        }
    }

    static void feedAll(ProphetFines x, String text) {
        for (int i = 0; i < text.length(); i++) {
            x.feed(text.charAt(i));
        }
    }

    static int tell(ProphetFines x, String text) {
        feedAll(x, text);
        return x.republic();
    }

    static ProphetFines told(String text) {
        ProphetFines x = new ProphetFines();
        if (tell(x, text) < 1) {
            System.out.println("not read: " + text);
            System.exit(1);
        }
        return x;
    }

    /** By set s the one PROPHET is fined just s, so the least set for an ITEM of 0 to 31 is the ITEM. */
    static final String READER = "f5,0;v19;v18;v16;v12;v4;w0;";
    static final int READ_BY = 5;

    /** An object by which ITEMS can be looked at, for which the document has no call. */
    static ProphetFines reader() {
        ProphetFines x = told(READER);
        sayAllOfReader(x);
        return x;
    }

    static void sayAllOfReader(ProphetFines x) {
        for (int e = 0; e < READ_BY; e++) {
            x.say(0, 0, e, e);
        }
    }

    /** ITEMS of a reader's row: 0 to 31 as they are, -1 as it is, BAD for less, NONE for more; then no more ITEMS. */
    void dueItems(ProphetFines x, String name, int row, int... due) {
        for (int i = 0; i < due.length; i++) {
            due(name + ": item " + i, item(x, row, i), due[i]);
        }
        due(name + ": no more items", item(x, row, due.length), PLACE);
    }

    static int item(ProphetFines x, int row, int i) {
        int fitting = x.could(row, i, 0);
        return fitting == 1 ? x.could(row, i, 1) : fitting == 1 << READ_BY ? -1 : fitting == 0 ? NONE : fitting;
    }

    /** A row of ints, with these items. */
    static void fill(ProphetFines x, int row, int... items) {
        x.row(row, 2, items.length);
        for (int i = 0; i < items.length; i++) {
            x.set(row, i, items[i]);
        }
    }
}
