/** Part 4, KINDS of part 3 and promises 32 to 37: each sentence that names an edge of asks, THE TRACE, counts, status(). */
public final class AskEdgesTest {
    private static final Check CHECK = new Check();
    private static final int MIN = Integer.MIN_VALUE, MAX = Integer.MAX_VALUE;
    private static final String SORTS = "wlaoi";
    private static final int[][] SIZE_TRACES = {{11, 10, 21, 20}, {12, 11, 10, 24, 21, 20}, {11, 10, 22, 21, 20}, {13, 10}, {14, 13, 10}};
    private static final int[][] MARK_TRACES = {{21, 20}, {24, 21, 20}, {22, 21, 20}, {23, 20, 13, 10}, {23, 20, 14, 13, 10}};

    public static void main(String[] args) {
        kindsAsTold();
        takenAsAKind();
        noSuchProphetOrKind();
        asksOfEachKind();
        asksOfNone();
        traceIsEmptyAhead();
        numbersOfTheTrace();
        countsOfEmptyAndFull();
        statusOfEachFinding();
        statusIsOfRowsAndAs();
        CHECK.end();
    }

    private static String five(char sort) {
        StringBuilder text = new StringBuilder("f10,7;v5;v10;");
        for (int p = 0; p < 5; p++) {
            text.append(sort).append("6;");
        }
        return text.toString();
    }

    private static void kindsAsTold() {
        CHECK.says("The KIND of a PROPHET, as told (1 to 5). BAD");
        for (int kind = 1; kind <= 5; kind++) {
            ProphetFines x = Check.told(five(SORTS.charAt(kind - 1)));
            CHECK.due("the first", x.kind(0), kind);
            CHECK.due("the last", x.kind(4), kind);
            for (int no : new int[] {MIN, -1, 5, MAX}) {
                CHECK.due("kind(" + no + ")", x.kind(no), Check.BAD);
            }
        }
        CHECK.due("no prophets", Check.told("f1,0;v1;").kind(0), Check.BAD);
        CHECK.due("no republic", new ProphetFines().kind(0), Check.BAD);
    }

    private static void takenAsAKind() {
        CHECK.says("A PROPHET is taken as one of a KIND (0 .. 5): its number. BAD; KIND: it is no such one");
        String[] kindsOf = {"01", "012", "013", "04", "045"};
        for (int sort = 0; sort < 5; sort++) {
            ProphetFines x = Check.told(five(SORTS.charAt(sort)));
            for (int p = 0; p < 5; p++) {
                for (int kind = 0; kind <= 5; kind++) {
                    boolean isSuch = kindsOf[sort].indexOf('0' + kind) >= 0;
                    CHECK.due(SORTS.charAt(sort) + " as " + kind, x.as(p, kind), isSuch ? p : Check.KIND);
                    CHECK.due("status", x.status(), isSuch ? 0 : 3);
                }
            }
        }
    }

    private static void noSuchProphetOrKind() {
        CHECK.says("BAD; KIND: it is no such one .. An ASK (0, 1) of a PROPHET. BAD");
        for (int many = 1; many <= 5; many++) {
            ProphetFines x = Check.told("f1,0;v1;" + "w0;".repeat(many));
            CHECK.due("the last", x.as(many - 1, 1), many - 1);
            x.as(0, 5);
            for (int no : new int[] {MIN, -1, many, MAX}) {
                CHECK.due("as(" + no + ", 0)", x.as(no, 0), Check.BAD);
                CHECK.due("as(" + no + ", 5)", x.as(no, 5), Check.BAD);
                CHECK.due("ask(" + no + ", 0)", x.ask(no, 0), Check.BAD);
                CHECK.due("ask(" + no + ", 1)", x.ask(no, 1), Check.BAD);
            }
            for (int no : new int[] {MIN, -1, 6, MAX}) {
                CHECK.due("as(0, " + no + ")", x.as(0, no), Check.BAD);
            }
            for (int no : new int[] {MIN, -1, 2, MAX}) {
                CHECK.due("ask(0, " + no + ")", x.ask(0, no), Check.BAD);
            }
            CHECK.due("status is of the last KIND", x.status(), 3);
            CHECK.due("THE TRACE is empty still", x.trace(0), Check.NONE);
        }
    }

    private static int sizeDue(int sort, int number, int purse, int sayings) {
        switch (sort) {
            case 0: return purse + number + sayings;
            case 1: return 0 - (purse + 2 * (number + sayings));
            case 2: return purse + number + sayings - 1000;
            case 3: return purse - 100;
            default: return 2 * (purse - 100);
        }
    }

    private static int markDue(int sort, int number, int purse, int sayings) {
        switch (sort) {
            case 0: return number + sayings;
            case 1: return 2 * (number + sayings);
            case 2: return number + sayings - 1000;
            default: return number - sizeDue(sort, number, purse, sayings);
        }
    }

    private static void expectAsk(ProphetFines x, int sort, int p, int purse, int sayings) {
        String name = SORTS.charAt(sort) + " " + p + " with " + purse + " and " + sayings;
        CHECK.due("PURSE of " + name, x.prophet(p, 0), purse);
        CHECK.due("SIZE of " + name, x.ask(p, 0), sizeDue(sort, p, purse, sayings));
        expectTrace("SIZE of " + name, x, SIZE_TRACES[sort]);
        CHECK.due("MARK of " + name, x.ask(p, 1), markDue(sort, p, purse, sayings));
        expectTrace("MARK of " + name, x, MARK_TRACES[sort]);
    }

    private static void expectTrace(String name, ProphetFines x, int... due) {
        for (int i = 0; i < due.length; i++) {
            CHECK.due(name + ": trace " + i, x.trace(i), due[i]);
        }
        CHECK.due(name + ": no more", x.trace(due.length), Check.NONE);
        CHECK.due(name + ": the 16th", x.trace(15), Check.NONE);
    }

    /** Each says that EVENT 0 does not come; NET of the first is 6 less his FINE with FIRST, of the others without. */
    private static void asksOfEachKind() {
        CHECK.says("Of an ask the BODY told for the KIND begins, else that of the nearest KIND that it is, too, else the one that is lent");
        int[] netOfFirst = {6 - 17, 6 - 8, 6 - 34, 6 - 17, 0};
        int[] netOfLater = {6 - 10, 6 - 5, 6 - 20, 6 - 10, 0};
        for (int sort = 0; sort < 5; sort++) {
            for (int p = 0; p < 5; p++) {
                ProphetFines x = Check.told(five(SORTS.charAt(sort)));
                expectAsk(x, sort, p, 0, 0);
                for (int n = 0; n < 5; n++) {
                    x.say(n, 1, 0, 0);
                }
                x.year(0);
                int purse = p == 0 ? netOfFirst[sort] : netOfLater[sort];
                expectAsk(x, sort, p, purse, 0);
                x.say((p + 1) % 5, 0, 0, 0);
                for (int n = 1; n <= 11; n++) {
                    x.say(p, 0, 0, 0);
                }
                expectAsk(x, sort, p, purse, 11);
            }
        }
    }

    private static void asksOfNone() {
        CHECK.says("An ASK (0, 1) of a PROPHET. BAD");
        CHECK.due("no prophets", Check.told("f1,0;v1;").ask(0, 0), Check.BAD);
        CHECK.due("no republic", new ProphetFines().ask(0, 0), Check.BAD);
        CHECK.due("no republic", new ProphetFines().as(0, 0), Check.BAD);
    }

    private static void traceIsEmptyAhead() {
        CHECK.says("THE TRACE is empty ahead of it");
        ProphetFines x = Check.told("f1,0;v1;l0;o0;");
        CHECK.due("at first", x.trace(0), Check.NONE);
        x.ask(0, 0);
        expectTrace("six", x, 12, 11, 10, 24, 21, 20);
        x.ask(1, 0);
        expectTrace("two behind six", x, 13, 10);
        x.ask(2, 0);
        x.ask(0, 2);
        expectTrace("BAD leaves them", x, 13, 10);
        x.ask(0, 1);
        expectTrace("three", x, 24, 21, 20);
    }

    private static void numbersOfTheTrace() {
        CHECK.says("Number i of THE TRACE; NONE");
        ProphetFines x = Check.told("f1,0;v1;l0;");
        x.ask(0, 0);
        CHECK.due("the first", x.trace(0), 12);
        CHECK.due("the last", x.trace(5), 20);
        for (int no : new int[] {MIN, -1, 6, 7, 15, 16, 17, MAX}) {
            CHECK.due("trace(" + no + ")", x.trace(no), Check.NONE);
        }
    }

    private static void countsOfEmptyAndFull() {
        CHECK.says("How many: 0 ROWS, 1 EVENTS, 2 PROPHETS, 3 SAYINGS that stand, 4 YEARS gone, 5 ACTS that can be undone, 6 bytes on the tape. BAD");
        ProphetFines x = new ProphetFines();
        for (int what = 0; what <= 6; what++) {
            CHECK.due("count(" + what + ") of a new object", x.count(what), 0);
        }
        Check.tell(x, "f1,0;v1;v1;v1;v1;v1;v1;w0;w0;w0;w0;w0;");
        for (int row = 0; row < 8; row++) {
            x.row(row, 0, 0);
        }
        for (int n = 0; n < 20; n++) {
            x.year(0);
        }
        for (int n = 0; n < 12; n++) {
            x.say(0, 0, 0, 0);
        }
        for (int n = 0; n < 100; n++) {
            x.feed('a');
        }
        int[] due = {8, 6, 5, 12, 20, 24, 100};
        for (int what = 0; what <= 6; what++) {
            CHECK.due("count(" + what + ") of a full one", x.count(what), due[what]);
        }
        for (int no : new int[] {MIN, -1, 7, MAX}) {
            CHECK.due("count(" + no + ")", x.count(no), Check.BAD);
        }
    }

    private static void statusOfEachFinding() {
        CHECK.says("the number of its FINDING; 0: it had none, or there was none");
        ProphetFines x = Check.told("f1,0;v1;w0;");
        CHECK.due("there was none", x.status(), 0);
        x.row(0, 0, 2);
        x.row(1, 1, 2);
        Object[][] findings = {
            {"set NULL", x.set(2, 0, 0), Check.NULL, 1, x.status()},
            {"copy NULL", x.copy(0, 0, 2, 0, 0), Check.NULL, 1, x.status()},
            {"copy NULL", x.copy(2, 0, 0, 0, 0), Check.NULL, 1, x.status()},
            {"drop NULL", x.drop(2), Check.NULL, 1, x.status()},
            {"could NULL", x.could(2, 0, 0), Check.NULL, 1, x.status()},
            {"set PLACE", x.set(0, 2, 0), Check.PLACE, 2, x.status()},
            {"copy PLACE", x.copy(0, 0, 0, 0, 3), Check.PLACE, 2, x.status()},
            {"could PLACE", x.could(0, 2, 0), Check.PLACE, 2, x.status()},
            {"as KIND", x.as(0, 2), Check.KIND, 3, x.status()},
            {"row SIZE", x.row(0, 0, -1), Check.SIZE, 4, x.status()},
            {"copy STORE", x.copy(0, 0, 1, 0, 0), Check.STORE, 5, x.status()},
            {"row", x.row(3, 0, 2), 2, 0, x.status()},
            {"copy STORE", x.copy(0, 0, 1, 0, 0), Check.STORE, 5, x.status()},
            {"set", x.set(3, 0, 2), 2, 0, x.status()},
            {"copy STORE", x.copy(0, 0, 1, 0, 0), Check.STORE, 5, x.status()},
            {"copy", x.copy(3, 0, 0, 0, 1), 1, 0, x.status()},
            {"copy STORE", x.copy(0, 0, 1, 0, 0), Check.STORE, 5, x.status()},
            {"could", x.could(3, 0, 0), 0, 0, x.status()},
            {"copy STORE", x.copy(0, 0, 1, 0, 0), Check.STORE, 5, x.status()},
            {"could NONE", x.could(3, 0, 1), Check.NONE, 0, x.status()},
            {"copy STORE", x.copy(0, 0, 1, 0, 0), Check.STORE, 5, x.status()},
            {"could NONE", x.could(3, 0, 2), Check.NONE, 0, x.status()},
            {"copy STORE", x.copy(0, 0, 1, 0, 0), Check.STORE, 5, x.status()},
            {"as", x.as(0, 1), 0, 0, x.status()},
            {"copy STORE", x.copy(0, 0, 1, 0, 0), Check.STORE, 5, x.status()},
            {"drop", x.drop(3), 2, 0, x.status()}};
        for (Object[] f : findings) {
            CHECK.due(f[0] + "", (Integer) f[1], (Integer) f[2]);
            CHECK.due("status of " + f[0], (Integer) f[4], (Integer) f[3]);
        }
    }

    private interface Call {
        long on(ProphetFines x);
    }

    private static void statusIsOfRowsAndAs() {
        CHECK.says("Of the latest call with a ROW, or as(), that was not BAD, STATE, FULL");
        Call[] others = {
            x -> x.feed('f'), x -> x.feed(256), x -> x.republic(), x -> x.fault(), x -> x.say(0, 0, 0, 0), x -> x.undo(),
            x -> x.say(9, 0, 0, 0), x -> x.say(0, 0, 0, 0), x -> x.unsay(), x -> x.unsay(), x -> x.chance(0, 5),
            x -> x.chance(0, 20), x -> x.say(0, 0, 0, 0), x -> x.prophet(0, 0), x -> x.prophet(9, 0), x -> x.saying(0, 0),
            x -> x.saying(9, 0), x -> x.odds(0, 0, 0), x -> x.odds(0, 0, 1), x -> x.fine(0, 0), x -> x.fine(9, 0),
            x -> x.net(0, 0), x -> x.net(9, 0), x -> x.expected(0, 0), x -> x.expected(0, 2), x -> x.worst(0, 0),
            x -> x.worst(0, 2), x -> x.cheapest(0, 0, 0), x -> x.cheapest(0, 0, 4), x -> x.loopholes(0), x -> x.loopholes(1),
            x -> x.loopholes(2), x -> x.shut(), x -> x.group(1, 0), x -> x.group(2, 0), x -> x.group(4, 0),
            x -> x.could(8, 0, 0), x -> x.could(0, 0, 3), x -> x.could(1, 0, 0), x -> x.premium(0, 0), x -> x.premium(9, 0),
            x -> x.heeded(), x -> x.plain(0), x -> x.plain(9), x -> x.year(0), x -> x.year(9), x -> x.drawn(1),
            x -> x.drawn(0), x -> x.image(0), x -> x.image(2), x -> x.restore(0), x -> x.restore(1), x -> x.restore(2),
            x -> x.kind(0), x -> x.kind(9), x -> x.as(9, 0), x -> x.as(0, 6), x -> x.ask(0, 0), x -> x.ask(9, 0),
            x -> x.trace(0), x -> x.trace(99), x -> x.count(0), x -> x.count(7), x -> x.status(), x -> x.row(8, 0, 0),
            x -> x.row(0, 3, 0), x -> x.row(0, 0, 41), x -> x.set(8, 0, 0), x -> x.copy(8, 0, 0, 0, 0),
            x -> x.copy(0, 0, 8, 0, 0), x -> x.drop(8)};
        for (int before : new int[] {0, 3}) {
            ProphetFines x = Check.told("f1,0;v1;w0;");
            x.row(1, 0, 1);
            x.set(1, 0, -2);
            x.as(0, before == 0 ? 1 : 5);
            for (int k = 0; k < others.length; k++) {
                others[k].on(x);
                CHECK.due("status behind call " + k, x.status(), before);
            }
        }
        ProphetFines none = new ProphetFines();
        none.row(0, 0, -1);
        CHECK.due("could without a republic", none.could(0, 0, 0), Check.STATE);
        CHECK.due("status is of row()", none.status(), 4);
    }
}
