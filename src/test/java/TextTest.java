/** Promises 1, 6, 7 and 8: the tape, how it is read, and its faults. */
public final class TextTest {
    private static final Check CHECK = new Check();

    public static void main(String[] args) {
        newObject();
        feed();
        republics();
        faultOfKindOne();
        faultOfKindTwo();
        faultOfKindThree();
        theEnd();
        faultLeavesAll();
        readingStartsAnew();
        CHECK.end();
    }

    private static void newObject() {
        ProphetFines x = new ProphetFines();
        for (int what = 0; what <= 6; what++) {
            CHECK.due("count(" + what + ") of a new object", x.count(what), 0);
        }
        CHECK.due("no republic", x.year(0), Check.STATE);
        CHECK.due("no republic", x.shut(), Check.STATE);
        CHECK.due("no republic", x.heeded(), Check.STATE);
        CHECK.due("no prophet", x.kind(0), Check.BAD);
        CHECK.due("no fault", x.fault(), 0);
        CHECK.due("no status", x.status(), 0);
        CHECK.due("no trace", x.trace(0), Check.NONE);
    }

    private static void feed() {
        ProphetFines x = new ProphetFines();
        CHECK.due("byte 0", x.feed(0), 1);
        CHECK.due("byte 255", x.feed(255), 2);
        CHECK.due("byte -1", x.feed(-1), Check.BAD);
        CHECK.due("byte 256", x.feed(256), Check.BAD);
        CHECK.due("two bytes", x.count(6), 2);
        for (int i = 3; i <= 100; i++) {
            CHECK.due("byte number " + i, x.feed('a'), i);
        }
        CHECK.due("full", x.feed('a'), Check.FULL);
        CHECK.due("BAD goes ahead of FULL", x.feed(256), Check.BAD);
        CHECK.due("a hundred bytes", x.count(6), 100);
        CHECK.due("byte 0 is no token", x.republic(), -1000100);
        CHECK.due("the tape is empty then", x.count(6), 0);
        CHECK.due("and is fed anew", x.feed('f'), 1);
    }

    private static void republics() {
        expectRead("f1,0;v1;", 1, 0);
        expectRead("f20,50;v19;v1;", 2, 0);
        expectRead("f01,00;v01;w00;", 1, 1);
        expectRead("f1,0;v1;v2;v3;v4;v5;v6;w0;l1;a50;o3;i4;", 6, 5);
        ProphetFines x = Check.told("f1,0;v4;v13;i1;o2;a3;l4;w50;");
        for (int p = 0; p < 5; p++) {
            CHECK.due("kind of " + p, x.kind(p), 5 - p);
            CHECK.due("heed of " + p, x.prophet(p, 3), p == 4 ? 50 : p + 1);
        }
        CHECK.due("chance of 0", x.odds(0, 0, 0), 80);
        CHECK.due("chance of 1", x.odds(0, 1, 1), 260);
        x.say(4, 0, 0, 0);
        CHECK.due("rate 1, first 0", x.fine(0, 1), 3);
        Check.tell(x, "f20,50;v4;w0;");
        x.say(0, 0, 0, 0);
        CHECK.due("rate 20, first 50", x.fine(0, 1), 114);
    }

    private static void expectRead(String text, int events, int prophets) {
        ProphetFines x = new ProphetFines();
        CHECK.due(text, Check.tell(x, text), events);
        CHECK.due(text + " has events", x.count(1), events);
        CHECK.due(text + " has prophets", x.count(2), prophets);
        CHECK.due(text + " has no fault", x.fault(), 0);
        CHECK.due(text + " leaves no tape", x.count(6), 0);
    }

    private static void expectFault(String text, int place, int fault) {
        ProphetFines x = new ProphetFines();
        CHECK.due(text, Check.tell(x, text), -1000100 - place);
        CHECK.due("fault of " + text, x.fault(), fault);
        CHECK.due("no republic by " + text, x.count(1), 0);
        CHECK.due("no tape after " + text, x.count(6), 0);
    }

    private static void faultOfKindOne() {
        expectFault("", 0, 1);
        expectFault("v1;", 0, 1);
        expectFault("F1,0;v1;", 0, 1);
        expectFault("ff1,0;v1;", 1, 1);
        expectFault("f,0;v1;", 1, 1);
        expectFault("f 1,0;v1;", 1, 1);
        expectFault("f1 ,0;v1;", 2, 1);
        expectFault("f1;0;v1;", 2, 1);
        expectFault("f1,;v1;", 3, 1);
        expectFault("f1,0,v1;", 4, 1);
        expectFault("f1,0;w1;", 5, 1);
        expectFault("f1,0;;", 5, 1);
        expectFault("f1,0;v;", 6, 1);
        expectFault("f1,0;v1,", 7, 1);
        expectFault("f1,0;v1;q1;", 8, 1);
        expectFault("f1,0;v1;f1,0;", 8, 1);
        expectFault("f1,0;v1;7;", 8, 1);
        expectFault("f1,0;v1;w1;v1;", 11, 1);
        expectFault("f1,0;v1;w1;;", 11, 1);
        expectFault("f1,0;v1;w1;W1;", 11, 1);
        expectFault("f1,0;v1;w-1;", 9, 1);
        expectFault("f1,0;v1;w1;" + (char) 0, 11, 1);
        expectFault("f1,0;v1;w1;" + (char) 255, 11, 1);
        expectFault("f001,0;v1;", 1, 1);
        expectFault("f0001,0;v1;", 1, 1);
        expectFault("f999,0;v1;", 1, 1);
        expectFault("f1,000;v1;", 3, 1);
        expectFault("f1,0;v019;", 6, 1);
        expectFault("f1,0;v1;w123", 9, 1);
        expectFault("f1,0;v1;123", 8, 1);
        expectFault("f1,0;v1;v1;v1;v1;v1;v1;w1;w1;w1;w1;w1;v1;", 38, 1);
        expectFault("f1,0;v1;v1;v1;v1;v1;v1;q", 23, 1);
    }

    private static void faultOfKindTwo() {
        expectFault("f0,0;v1;", 1, 2);
        expectFault("f21,0;v1;", 1, 2);
        expectFault("f99,,", 1, 2);
        expectFault("f1,51;v1;", 3, 2);
        expectFault("f1,0;v0;", 6, 2);
        expectFault("f1,0;v00;", 6, 2);
        expectFault("f1,0;v20;", 6, 2);
        expectFault("f1,0;v1;v20;", 9, 2);
        expectFault("f1,0;v1;w51;", 9, 2);
        expectFault("f1,0;v1;i50;o99;", 13, 2);
    }

    private static void faultOfKindThree() {
        String events = "f1,0;v1;v1;v1;v1;v1;v1;";
        expectFault(events + "v1;", 23, 3);
        expectFault(events + "vv", 23, 3);
        expectFault(events + "v", 23, 3);
        String prophets = "f1,0;v1;w1;l1;a1;o1;i1;";
        for (String sort : new String[] {"w", "l", "a", "o", "i"}) {
            expectFault(prophets + sort + "1;", 23, 3);
        }
        expectFault(prophets + "v1;", 23, 1);
        expectFault(prophets + "q1;", 23, 1);
        expectFault(prophets + ";", 23, 1);
    }

    /** Whatever is missing at the end, the place is how many bytes there are, whatever stood behind them before. */
    private static void theEnd() {
        String whole = "f12,34;v15;w16;";
        ProphetFines x = Check.told(whole);
        for (int n = 0; n < whole.length(); n++) {
            String part = whole.substring(0, n);
            boolean isWhole = part.equals("f12,34;v15;");
            if (isWhole) {
                expectRead(part, 1, 0);
            } else {
                expectFault(part, n, 1);
                CHECK.due(part + " behind a whole one", Check.tell(x, part), -1000100 - n);
            }
        }
    }

    private static void faultLeavesAll() {
        ProphetFines x = Check.told("f5,10;v4;v10;w9;");
        x.say(0, 0, 0, 0);
        x.year(1);
        x.say(0, 1, 1, 1);
        int purse = x.prophet(0, 0);
        CHECK.due("a fault", Check.tell(x, "f5,10;v4;w9;x"), -1000112);
        CHECK.due("its number", x.fault(), 1);
        CHECK.due("events stay", x.count(1), 2);
        CHECK.due("sayings stay", x.count(3), 1);
        CHECK.due("years stay", x.count(4), 1);
        CHECK.due("acts stay", x.count(5), 3);
        CHECK.due("purses stay", x.prophet(0, 0), purse);
        CHECK.due("the law stays", x.fine(0, 0), 20);
        CHECK.due("a second fault", Check.tell(x, "f0"), -1000101);
        CHECK.due("the latest number", x.fault(), 2);
        CHECK.due("one that is read", Check.tell(x, "f1,0;v1;"), 1);
        CHECK.due("leaves the number", x.fault(), 2);
    }

    private static void readingStartsAnew() {
        ProphetFines x = Check.told("f5,10;v4;v10;w9;l9;");
        x.say(0, 0, 0, 0);
        x.say(1, 0, 0, 0);
        x.year(1);
        x.say(0, 1, 1, 1);
        CHECK.due("another", Check.tell(x, "f2,0;v7;l3;w3;"), 1);
        CHECK.due("one event", x.count(1), 1);
        CHECK.due("nothing said", x.count(3), 0);
        CHECK.due("year 0", x.count(4), 0);
        CHECK.due("no act can be undone", x.count(5), 0);
        CHECK.due("no act can be undone", x.undo(), Check.STATE);
        for (int p = 0; p < 2; p++) {
            CHECK.due("purse", x.prophet(p, 0), 0);
            CHECK.due("right", x.prophet(p, 1), 0);
            CHECK.due("wrong", x.prophet(p, 2), 0);
            CHECK.due("heed", x.prophet(p, 3), 3);
            CHECK.due("kind", x.kind(p), 2 - p);
        }
        CHECK.due("nobody to heed", x.heeded(), Check.NONE);
        CHECK.due("odds", x.odds(0, 0, 0), 140);
        CHECK.due("one without prophets", Check.tell(x, "f2,0;v7;"), 1);
        CHECK.due("no prophets", x.count(2), 0);
    }
}
