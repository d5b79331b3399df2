/** What the tests share: answers that are due, counted, and republics told in one go. */
final class Check {
    static final int NONE = -1000000, BAD = -1000001, STATE = -1000002, FULL = -1000003;
    static final int NULL = -1000011, PLACE = -1000012, KIND = -1000013, SIZE = -1000014, STORE = -1000015;
    private static final int MOST_SHOWN = 20;

    private int checked = 0;
    private int wrong = 0;

    void due(String call, long got, long want) {
        checked++;
        if (got != want) {
            wrong++;
            if (wrong <= MOST_SHOWN) {
                System.out.println(call + " answered " + got + ", due is " + want);
            }
        }
    }

    void holds(String what, boolean isSo) {
        due(what, isSo ? 1 : 0, 1);
    }

    void end() {
        System.out.println(checked + " answers, " + wrong + " not as due");
        if (wrong != 0 || checked == 0) {
            System.exit(1);
        }
    }

    static void feedAll(ProphetFines x, String text) {
        for (int i = 0; i < text.length(); i++) {
            x.feed(text.charAt(i));
        }
    }

    static int tell(ProphetFines x, String text) {
        feedAll(x, text);
        return x.republic();
    }

    static ProphetFines told(String text) {
        ProphetFines x = new ProphetFines();
        if (tell(x, text) < 1) {
            System.out.println("not read: " + text);
            System.exit(1);
        }
        return x;
    }

    /** A row of ints, with these items. */
    static void fill(ProphetFines x, int row, int... items) {
        x.row(row, 2, items.length);
        for (int i = 0; i < items.length; i++) {
            x.set(row, i, items[i]);
        }
    }
}
