/** TEXTS of part 1 and promises 1, 6, 7 and 8: each sentence that names an edge of THE TAPE, its TOKENS, its FAULTS. */
public final class TextEdgesTest {
    private static final Check CHECK = new Check();
    private static final String SORTS = "wlaoi";
    /** The longest text that can be read: 51 bytes. */
    private static final String LONGEST = "f20,50;v19;v19;v19;v19;v19;v19;w50;l50;a50;o50;i50;";

    public static void main(String[] args) {
        newObject();
        tapeOf100();
        bytesOneByOne();
        bytesFrom0To255();
        nothingElse();
        lettersByThemselves();
        figuresTwoAtMost();
        lawEventsProphets();
        rates();
        firsts();
        chances();
        heeds();
        sorts();
        sixEvents();
        fiveProphets();
        inPlaceOfTheOneBefore();
        noneAtFirst();
        firstTokenWithAFault();
        ofOneTokenTheLeast();
        threeFiguresAtTheFirst();
        theEndOfEach();
        tapeIsEmptyThen();
        allStays();
        latestFault();
        CHECK.end();
    }

    private static void expectFault(String text, int place, int fault) {
        ProphetFines x = new ProphetFines();
        CHECK.due(text, Check.tell(x, text), -1000100 - place);
        CHECK.due("fault of " + text, x.fault(), fault);
        CHECK.due("no republic by " + text, x.shut(), Check.STATE);
    }

    private static ProphetFines expectRead(String text, int events, int prophets) {
        ProphetFines x = new ProphetFines();
        CHECK.due(text, Check.tell(x, text), events);
        CHECK.due("events of " + text, x.count(1), events);
        CHECK.due("prophets of " + text, x.count(2), prophets);
        CHECK.due("no fault of " + text, x.fault(), 0);
        return x;
    }

    private static void newObject() {
        CHECK.says("No REPUBLIC");
        ProphetFines x = new ProphetFines();
        CHECK.due("year", x.year(0), Check.STATE);
        CHECK.due("drawn", x.drawn(1), Check.STATE);
        CHECK.due("loopholes", x.loopholes(0), Check.STATE);
        CHECK.due("shut", x.shut(), Check.STATE);
        CHECK.due("group", x.group(2, -1), Check.STATE);
        CHECK.due("could", x.could(0, 0, 0), Check.STATE);
        CHECK.due("heeded", x.heeded(), Check.STATE);
        CHECK.due("image", x.image(0), Check.STATE);
        for (int what = 0; what <= 6; what++) {
            CHECK.due("count(" + what + ")", x.count(what), 0);
        }
    }

    private static void tapeOf100() {
        CHECK.says("THE TAPE has at most 100 bytes");
        ProphetFines x = new ProphetFines();
        for (int i = 1; i <= 100; i++) {
            CHECK.due("byte number " + i, x.feed('f'), i);
            CHECK.due("bytes on the tape", x.count(6), i);
        }
        CHECK.due("byte number 101", x.feed('f'), Check.FULL);
        CHECK.due("byte number 102", x.feed(0), Check.FULL);
        CHECK.due("bytes on the tape", x.count(6), 100);
        CHECK.due("the second f cannot stand there", x.republic(), -1000101);
        CHECK.due("room again", x.feed('f'), 1);
    }

    private static void bytesOneByOne() {
        CHECK.says("comes behind the tape: how many it has. BAD; FULL");
        ProphetFines x = new ProphetFines();
        for (int i = 0; i < LONGEST.length(); i++) {
            CHECK.due("byte " + i, x.feed(LONGEST.charAt(i)), i + 1);
        }
        CHECK.due("the longest that can be read", x.republic(), 6);
        Check.feedAll(x, LONGEST);
        for (int i = 52; i <= 100; i++) {
            CHECK.due("byte number " + i, x.feed('0'), i);
        }
        CHECK.due("a full tape", x.feed(';'), Check.FULL);
        CHECK.due("49 figures behind it", x.republic(), -1000100 - 51);
        CHECK.due("their fault", x.fault(), 1);
    }

    private static void bytesFrom0To255() {
        CHECK.says("A byte (0 to 255)");
        ProphetFines x = new ProphetFines();
        CHECK.due("0", x.feed(0), 1);
        CHECK.due("255", x.feed(255), 2);
        for (int no : new int[] {Integer.MIN_VALUE, -256, -154, -1, 256, 257, 358, Integer.MAX_VALUE}) {
            CHECK.due("feed(" + no + ")", x.feed(no), Check.BAD);
        }
        CHECK.due("two bytes", x.count(6), 2);
    }

    /** Behind each beginning of a text, every byte that may not follow is a fault at its place. */
    private static void nothingElse() {
        CHECK.says("SIGNS , and ; nothing else");
        String figures = "0123456789";
        String[][] beginnings = {
            {"", "f"}, {"f", figures}, {"f5", figures + ","}, {"f15", figures + ","}, {"f5,", figures},
            {"f5,7", figures + ";"}, {"f5,17", figures + ";"}, {"f5,7;", "v"}, {"f5,7;v", figures},
            {"f5,7;v3", figures + ";"}, {"f5,7;v13", figures + ";"}, {"f5,7;v3;", "v" + SORTS},
            {"f5,7;v3;v", figures}, {"f5,7;v3;w", figures}, {"f5,7;v3;l4", figures + ";"},
            {"f5,7;v3;a14", figures + ";"}, {"f5,7;v3;o4;", SORTS}, {"f5,7;v3;i4;w5;", SORTS}};
        for (String[] b : beginnings) {
            for (int letter = 0; letter <= 255; letter++) {
                if (b[1].indexOf(letter) < 0) {
                    ProphetFines x = new ProphetFines();
                    Check.feedAll(x, b[0]);
                    x.feed(letter);
                    CHECK.due("byte " + letter + " behind " + b[0], x.republic(), -1000100 - b[0].length());
                    CHECK.due("its fault", x.fault(), 1);
                }
            }
        }
    }

    private static void lettersByThemselves() {
        CHECK.says("letters a to z (each by itself)");
        expectFault("ff5,7;v3;", 1, 1);
        expectFault("f5,7;vv3;", 6, 1);
        expectFault("f5,7;v3;ww4;", 9, 1);
        expectFault("f5,7;v3;wl4;", 9, 1);
    }

    private static void figuresTwoAtMost() {
        CHECK.says("NUMBERS (figures, 2 at most)");
        expectRead("f1,1;v1;w1;", 1, 1);
        expectRead("f01,01;v01;w01;", 1, 1);
        expectFault("f001,01;v01;w01;", 1, 1);
        expectFault("f01,001;v01;w01;", 4, 1);
        expectFault("f01,01;v001;w01;", 8, 1);
        expectFault("f01,01;v01;w001;", 12, 1);
        expectFault("f01,01;v01;w01;000", 15, 1);
        ProphetFines x = expectRead("f07,09;v08;l09;", 1, 1);
        CHECK.due("v08 is 8", x.odds(0, 0, 0), 160);
        CHECK.due("l09 is 9", x.prophet(0, 3), 9);
    }

    private static void lawEventsProphets() {
        CHECK.says("republic: law event { event } { prophet }");
        expectRead("f1,0;v1;", 1, 0);
        expectRead("f1,0;v1;v2;", 2, 0);
        expectRead("f1,0;v1;i0;", 1, 1);
        expectRead(LONGEST, 6, 5);
        expectFault("", 0, 1);
        expectFault("f1,0;", 5, 1);
        expectFault("v1;", 0, 1);
        expectFault("w1;", 0, 1);
        expectFault("f1,0;w0;", 5, 1);
        expectFault("f1,0;f1,0;v1;", 5, 1);
        expectFault("f1,0;v1;f1,0;", 8, 1);
        expectFault("f1,0;v1;w0;v1;", 11, 1);
        expectFault("f1,0;v1;w0;f1,0;", 11, 1);
    }

    private interface Text {
        String with(String number);
    }

    /** Every number of one figure and of two: read from least to most, and fault 2 at its place if not. */
    private static void expectNumbers(Text text, int place, int least, int most) {
        for (int n = 0; n <= 99; n++) {
            String two = "" + n / 10 + n % 10;
            for (String number : n < 10 ? new String[] {"" + n, two} : new String[] {two}) {
                if (n >= least && n <= most) {
                    expectRead(text.with(number), 1, 1);
                } else {
                    expectFault(text.with(number), place, 2);
                }
            }
        }
    }

    private static void rates() {
        CHECK.says("law: f RATE , FIRST ; (1 to 20");
        expectNumbers(n -> "f" + n + ",7;v3;w4;", 1, 1, 20);
        for (int rate : new int[] {1, 20}) {
            ProphetFines x = Check.told("f" + rate + ",0;v5;w0;");
            x.say(0, 0, 0, 0);
            CHECK.due("a fine by rate " + rate, x.fine(0, 1), 3 * rate);
        }
    }

    private static void firsts() {
        CHECK.says("law: f RATE , FIRST ; (1 to 20; 0 to 50)");
        expectNumbers(n -> "f5," + n + ";v3;w4;", 3, 0, 50);
        for (int first : new int[] {0, 50}) {
            ProphetFines x = Check.told("f5," + first + ";v10;w0;");
            x.say(0, 0, 0, 0);
            x.say(0, 0, 0, 0);
            CHECK.due("with first " + first, x.fine(0, 1), 10 + first);
            CHECK.due("the second", x.fine(1, 1), 10);
        }
    }

    private static void chances() {
        CHECK.says("event: v CHANCE ; (1 to 19, of 20");
        expectNumbers(n -> "f5,7;v" + n + ";w4;", 6, 1, 19);
        expectFault("f5,7;v19;v20;", 10, 2);
        expectFault("f5,7;v1;v0;", 9, 2);
        for (int c : new int[] {1, 19}) {
            CHECK.due("odds of chance " + c, Check.told("f5,7;v" + c + ";").odds(0, 0, 0), 20 * c);
        }
    }

    private static void heeds() {
        CHECK.says("prophet: SORT HEED ; .. 0 to 50; PROPHETS");
        for (char sort : SORTS.toCharArray()) {
            expectNumbers(n -> "f5,7;v3;" + sort + n + ";", 9, 0, 50);
        }
        for (int heed : new int[] {0, 50}) {
            CHECK.due("heed " + heed, Check.told("f5,7;v3;w" + heed + ";").prophet(0, 3), heed);
        }
    }

    private static void sorts() {
        CHECK.says("SORT: w a weatherman, l a lover, a an almanac, o an oracle, i a fool");
        for (char letter = 'a'; letter <= 'z'; letter++) {
            int kind = SORTS.indexOf(letter) + 1;
            if (kind > 0) {
                CHECK.due("kind of " + letter, expectRead("f5,7;v3;" + letter + "4;", 1, 1).kind(0), kind);
            } else if (letter != 'v') {
                expectFault("f5,7;v3;" + letter + "4;", 8, 1);
            }
        }
    }

    private static void sixEvents() {
        CHECK.says("EVENTS 0 .. 5, 6 at most");
        StringBuilder text = new StringBuilder("f5,7;");
        for (int many = 1; many <= 6; many++) {
            text.append('v').append(many).append(';');
            ProphetFines x = expectRead(text + "w4;", many, 1);
            for (int e = 0; e < many; e++) {
                CHECK.due("odds of " + e + " of " + many, x.odds(0, e, e), 20 * (e + 1));
            }
            CHECK.due("no event " + many, x.odds(0, many, many), Check.BAD);
        }
        CHECK.says("3 an event, a prophet more than there is room for (its letter)");
        expectFault(text + "v7;", 23, 3);
        expectFault(text + "v", 23, 3);
        expectFault(text + "v0;", 23, 3);
        expectFault(text + "v999", 23, 3);
        expectFault(text + "v7;v8;", 23, 3);
    }

    private static void fiveProphets() {
        CHECK.says("PROPHETS 0 .. 4, 5 at most");
        StringBuilder text = new StringBuilder("f5,7;v3;");
        expectRead(text.toString(), 1, 0);
        for (int many = 1; many <= 5; many++) {
            text.append(SORTS.charAt(5 - many)).append(many).append(';');
            ProphetFines x = expectRead(text.toString(), 1, many);
            for (int p = 0; p < many; p++) {
                CHECK.due("heed of " + p + " of " + many, x.prophet(p, 3), p + 1);
                CHECK.due("kind of " + p + " of " + many, x.kind(p), 5 - p);
            }
            CHECK.due("no prophet " + many, x.prophet(many, 3), Check.BAD);
        }
        CHECK.says("3 an event, a prophet more than there is room for (its letter)");
        for (char sort : SORTS.toCharArray()) {
            expectFault(text.toString() + sort + "4;", 23, 3);
            expectFault(text.toString() + sort, 23, 3);
            expectFault(text.toString() + sort + "51;", 23, 3);
            expectFault(LONGEST + sort, 51, 3);
        }
        expectFault(LONGEST + "v1;", 51, 1);
        expectFault(LONGEST + ";", 51, 1);
    }

    private static void inPlaceOfTheOneBefore() {
        CHECK.says("A REPUBLIC that is read stands in place of the one before");
        ProphetFines x = Check.told(LONGEST);
        for (int p = 0; p < 5; p++) {
            x.say(p, 0, p, p);
            x.say(p, 1, p, p);
        }
        x.year(5);
        x.say(0, 0, 0, 0);
        CHECK.due("a smaller one", Check.tell(x, "f1,2;v3;o4;"), 1);
        CHECK.due("no event 1", x.odds(0, 1, 1), Check.BAD);
        CHECK.due("no prophet 1", x.kind(1), Check.BAD);
        CHECK.due("chance", x.odds(0, 0, 0), 60);
        CHECK.due("kind", x.kind(0), 4);
        CHECK.due("heed", x.prophet(0, 3), 4);
        CHECK.says("YEAR 0; PURSES are 0; nothing was said, nobody was right or wrong; no ACT can be undone");
        CHECK.due("YEAR", x.count(4), 0);
        CHECK.due("PURSE", x.prophet(0, 0), 0);
        CHECK.due("sayings", x.count(3), 0);
        CHECK.due("RIGHT", x.prophet(0, 1), 0);
        CHECK.due("WRONG", x.prophet(0, 2), 0);
        CHECK.due("heeded", x.heeded(), Check.NONE);
        CHECK.due("acts", x.count(5), 0);
        CHECK.due("undo", x.undo(), Check.STATE);
        x.say(0, 0, 0, 0);
        CHECK.due("by the new law", x.fine(0, 1), 3 + 2);
        CHECK.due("one without prophets", Check.tell(x, "f1,2;v3;v4;"), 2);
        CHECK.due("no prophets", x.count(2), 0);
        CHECK.due("no prophet 0", x.kind(0), Check.BAD);
        CHECK.due("the same text again", Check.tell(x, LONGEST), 6);
        for (int p = 0; p < 5; p++) {
            CHECK.due("PURSE of " + p, x.prophet(p, 0), 0);
            CHECK.due("RIGHT of " + p, x.prophet(p, 1), 0);
            CHECK.due("WRONG of " + p, x.prophet(p, 2), 0);
        }
        CHECK.due("nothing was said", x.count(3), 0);
    }

    private static void noneAtFirst() {
        CHECK.says("the one before (none at first)");
        ProphetFines x = new ProphetFines();
        CHECK.due("a fault makes none", Check.tell(x, "f1,0;v1;v"), -1000109);
        CHECK.due("none", x.shut(), Check.STATE);
        CHECK.due("no events", x.count(1), 0);
        CHECK.due("no image of it", x.image(0), Check.STATE);
        CHECK.due("then one", Check.tell(x, "f1,0;v1;"), 1);
        CHECK.due("one", x.shut(), 0);
    }

    private static void firstTokenWithAFault() {
        CHECK.says("FAULTS, the first TOKEN that has one (its first byte)");
        expectFault("f0,51;v0;", 1, 2);
        expectFault("f21 ", 1, 2);
        expectFault("f1,51x", 3, 2);
        expectFault("f1x51;", 2, 1);
        expectFault("f1,0;v20;w51;", 6, 2);
        expectFault("f1,0;v20", 6, 2);
        expectFault("f1,0;v2;w51;q", 9, 2);
        expectFault("f1,0;v2;q51;", 8, 1);
        expectFault("f1,0;v1;v1;v1;v1;v1;v1;v20;", 23, 3);
        expectFault("f1,0;v1;v1;v1;v1;v1;v20;v1;", 21, 2);
    }

    private static void ofOneTokenTheLeast() {
        CHECK.says("of one TOKEN the least");
        expectFault("f999,0;v1;", 1, 1);
        expectFault("f1,999;v1;", 3, 1);
        expectFault("f1,0;v999;", 6, 1);
        expectFault("f1,0;v1;w999;", 9, 1);
        expectFault("99", 0, 1);
        expectFault("f1,0;99", 5, 1);
        expectFault("f1,0;v1;99;", 8, 1);
        expectFault(LONGEST + "99;", 51, 1);
        expectFault("f1,0;v1;v1;v1;v1;v1;v1;w1;v1;", 26, 1);
    }

    private static void threeFiguresAtTheFirst() {
        CHECK.says("a run of three figures, at its first");
        for (String run : new String[] {"000", "001", "123", "999", "0000", "00001", "123456"}) {
            expectFault(run, 0, 1);
            expectFault("f" + run + ",1;v1;", 1, 1);
            expectFault("f1," + run + ";v1;", 3, 1);
            expectFault("f1,1;v" + run + ";", 6, 1);
            expectFault("f1,1;v1;w" + run + ";", 9, 1);
            expectFault("f1,1;v1;w" + run, 9, 1);
            expectFault("f1,1;v1;w1;" + run, 11, 1);
        }
        ProphetFines x = new ProphetFines();
        x.feed('f');
        for (int i = 0; i < 99; i++) {
            x.feed('1');
        }
        CHECK.due("99 figures", x.republic(), -1000101);
        CHECK.due("their fault", x.fault(), 1);
    }

    private static void theEndOfEach() {
        CHECK.says("the end: how many bytes there are");
        ProphetFines used = Check.told(LONGEST);
        for (int n = 0; n < LONGEST.length(); n++) {
            String part = LONGEST.substring(0, n);
            boolean isWhole = n > 7 && part.endsWith(";");
            if (isWhole) {
                expectRead(part, Math.min(6, (n - 7) / 4), Math.max(0, (n - 31) / 4));
            } else {
                expectFault(part, n, 1);
                CHECK.due(part + " where the whole stood before", Check.tell(used, part), -1000100 - n);
                CHECK.due("the same whole again", Check.tell(used, LONGEST), 6);
            }
            used = n % 3 == 0 ? Check.told(LONGEST) : used;
        }
    }

    private static void tapeIsEmptyThen() {
        CHECK.says("The tape, empty then, is read: how many EVENTS there are");
        ProphetFines x = new ProphetFines();
        CHECK.due("read", Check.tell(x, "f1,0;v1;v1;"), 2);
        CHECK.due("empty", x.count(6), 0);
        CHECK.due("an empty one", x.republic(), -1000100);
        CHECK.due("a fault", Check.tell(x, "f1,0;v1;x"), -1000108);
        CHECK.due("empty behind a fault", x.count(6), 0);
        CHECK.due("the first again", x.feed('f'), 1);
        Check.feedAll(x, "1,0;v1;");
        CHECK.due("nothing is left of the last", x.republic(), 1);
    }

    private static void allStays() {
        CHECK.says("-1000100 less the place of a FAULT: all stays");
        String[] faulty = {"", "x", "f9,9;v9;w9;w9;q", "f9,9;v9;v9;v9;v20;", LONGEST + "w1;"};
        for (String text : faulty) {
            ProphetFines x = Check.told("f5,10;v4;v10;l9;a8;");
            x.say(0, 0, 0, 0);
            x.year(1);
            x.say(1, 4, 0, 1);
            x.image(1);
            x.row(2, 1, 3);
            x.set(2, 3, 1);
            x.ask(0, 0);
            Check.tell(x, text);
            int[] due = {1, 2, 2, 1, 1, 3, 0};
            for (int what = 0; what < due.length; what++) {
                CHECK.due("count(" + what + ") behind " + text, x.count(what), due[what]);
            }
            CHECK.due("PURSE", x.prophet(0, 0), 9 - (16 + 10) / 2);
            CHECK.due("RIGHT", x.prophet(0, 1), 1);
            CHECK.due("HEED", x.prophet(1, 3), 8);
            CHECK.due("kinds", x.kind(0) * 10 + x.kind(1), 23);
            CHECK.due("chances", x.odds(2, 0, 1), 40);
            CHECK.due("a fine by the law", x.fine(0, 1), 2 * (10 + 10));
            CHECK.due("who said", x.saying(0, 0), 1);
            CHECK.due("status", x.status(), 2);
            CHECK.due("the trace", x.trace(0), 12);
            CHECK.due("an act is undone", x.undo(), 2);
            CHECK.due("the image", x.restore(1), 1);
            CHECK.due("with what was said", x.count(3), 1);
        }
    }

    private static void latestFault() {
        CHECK.says("The number of the latest FAULT; 0 before one");
        ProphetFines x = new ProphetFines();
        CHECK.due("new", x.fault(), 0);
        Check.tell(x, "f1,0;v1;");
        CHECK.due("read", x.fault(), 0);
        Check.tell(x, "f1,0;v1;v1;v1;v1;v1;v1;v1;");
        CHECK.due("3", x.fault(), 3);
        Check.tell(x, "f0");
        CHECK.due("2", x.fault(), 2);
        Check.tell(x, "f1,0;v1;w1;");
        CHECK.due("2 still", x.fault(), 2);
        Check.tell(x, "");
        CHECK.due("1", x.fault(), 1);
        x.feed(256);
        x.year(9);
        CHECK.due("a refused call is no fault", x.fault(), 1);
    }
}
