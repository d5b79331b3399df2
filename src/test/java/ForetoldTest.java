/** Promises 20 to 29: what is foretold, by answers worked out by hand. */
public final class ForetoldTest {
    private static final Check CHECK = new Check();
    private static final int SURE = 0, NOT = 1, BOTH = 2, EITHER = 3, ONE = 4;
    private static final int W = 0, L = 1, A = 2, O = 3, I = 4;
    /** Chances 5 and 10 of 20; FINES of a weatherman, FIRST aside: SURE 0 30, SURE 1 20, NOT 0 10, EITHER 15. */
    private static final String ALL_KINDS = "f10,7;v5;v10;w6;l6;a6;o6;i6;";

    public static void main(String[] args) {
        expected();
        worst();
        cheapestByKind();
        cheapestOfSeveral();
        loopholesAndShut();
        group();
        could();
        couldRefused();
        premium();
        heeded();
        plain();
        nothingChanges();
        CHECK.end();
    }

    private static void expectFraction(String name, long above, long below, long dueAbove, long dueBelow) {
        CHECK.due(name + ", above", above, dueAbove);
        CHECK.due(name + ", below", below, dueBelow);
    }

    private static void expected() {
        ProphetFines x = Check.told(ALL_KINDS);
        expectFraction("nothing said", x.expected(W, 0), x.expected(W, 1), 0, 1);
        x.say(L, SURE, 0, 0);
        expectFraction("a lover", x.expected(L, 0), x.expected(L, 1), -3, 1);
        x.unsay();
        x.say(W, SURE, 0, 0);
        expectFraction("a weatherman", x.expected(W, 0), x.expected(W, 1), -31, 4);
        expectFraction("another", x.expected(L, 0), x.expected(L, 1), 0, 1);
        x.unsay();
        x.say(O, SURE, 0, 0);
        x.say(O, SURE, 1, 1);
        expectFraction("an oracle", x.expected(O, 0), x.expected(O, 1), -7, 2);
        x.say(I, SURE, 1, 1);
        expectFraction("a fool", x.expected(I, 0), x.expected(I, 1), 0, 1);
        ProphetFines rich = Check.told("f10,7;v5;w50;");
        rich.say(0, SURE, 0, 0);
        expectFraction("a gain", rich.expected(0, 0), rich.expected(0, 1), 13, 4);
        ProphetFines six = Check.told("f20,50;v1;v3;v7;v9;v11;v13;w50;");
        six.say(0, NOT, 0, 0);
        expectFraction("what does not come", six.expected(0, 0), six.expected(0, 1), -19, 5);
        expectFraction("its premium", six.premium(0, 0), six.premium(0, 1), 513, 10);
        CHECK.due("prophet 5", x.expected(5, 0), Check.BAD);
        CHECK.due("prophet -1", x.expected(-1, 0), Check.BAD);
        CHECK.due("what 2", x.expected(0, 2), Check.BAD);
        CHECK.due("what -1", x.expected(0, -1), Check.BAD);
    }

    private static void worst() {
        ProphetFines x = Check.told(ALL_KINDS);
        CHECK.due("nothing said: the set", x.worst(W, 0), 0);
        CHECK.due("nothing said: net", x.worst(W, 1), 0);
        x.say(W, SURE, 0, 0);
        CHECK.due("of two sets the least", x.worst(W, 0), 1);
        CHECK.due("net", x.worst(W, 1), -31);
        x.say(W, BOTH, 0, 1);
        CHECK.due("both come", x.worst(W, 0), 3);
        CHECK.due("net", x.worst(W, 1), 12 - 37 - 42);
        ProphetFines rich = Check.told("f1,0;v10;v10;w50;");
        rich.say(0, SURE, 1, 1);
        rich.say(0, NOT, 1, 1);
        CHECK.due("always a gain: the set", rich.worst(0, 0), 0);
        CHECK.due("always a gain: net", rich.worst(0, 1), 48);
        CHECK.due("prophet 5", x.worst(5, 0), Check.BAD);
        CHECK.due("prophet -1", x.worst(-1, 0), Check.BAD);
        CHECK.due("what 2", x.worst(0, 2), Check.BAD);
        CHECK.due("what -1", x.worst(0, -1), Check.BAD);
    }

    private static void expectCheapest(ProphetFines x, int prophet, int event, int... due) {
        for (int what = 0; what < 4; what++) {
            CHECK.due("cheapest(" + prophet + ", " + event + ", " + what + ")",
                    x.cheapest(prophet, event, what), due[what]);
        }
    }

    private static void cheapestByKind() {
        ProphetFines x = Check.told(ALL_KINDS);
        int[] costs = {3700, 1800, 7400, 3700, 0};
        for (int p = W; p <= I; p++) {
            expectCheapest(x, p, 0, SURE, 0, 0, costs[p]);
        }
        expectCheapest(x, W, 1, SURE, 1, 1, 5400);
        x.say(O, EITHER, 0, 1);
        x.say(O, NOT, 0, 0);
        expectCheapest(x, W, 1, EITHER, 0, 1, 3750);
        expectCheapest(x, O, 1, EITHER, 0, 1, 3750);
        expectCheapest(x, L, 1, EITHER, 0, 1, 1750);
        expectCheapest(x, W, 0, SURE, 0, 0, 3700);
        expectCheapest(x, I, 1, SURE, 1, 1, 0);
        CHECK.due("prophet 5", x.cheapest(5, 0, 0), Check.BAD);
        CHECK.due("prophet -1", x.cheapest(-1, 0, 0), Check.BAD);
        CHECK.due("event 2", x.cheapest(0, 2, 0), Check.BAD);
        CHECK.due("event -1", x.cheapest(0, -1, 0), Check.BAD);
        CHECK.due("what 4", x.cheapest(0, 0, 4), Check.BAD);
        CHECK.due("what -1", x.cheapest(0, 0, -1), Check.BAD);
    }

    private static void cheapestOfSeveral() {
        ProphetFines tie = Check.told("f5,0;v4;v15;w0;");
        expectCheapest(tie, 0, 0, SURE, 0, 0, 1280);
        ProphetFines three = Check.told("f5,0;v4;v16;v16;w0;");
        expectCheapest(three, 0, 0, EITHER, 0, 1, 1008);
        expectCheapest(three, 0, 1, EITHER, 1, 2, 0);
        expectCheapest(three, 0, 2, EITHER, 1, 2, 0);
    }

    private static void loopholesAndShut() {
        ProphetFines none = new ProphetFines();
        CHECK.due("no republic goes ahead of BAD", none.loopholes(2), Check.STATE);
        CHECK.due("no republic", none.shut(), Check.STATE);
        ProphetFines x = Check.told(ALL_KINDS);
        expectLoopholes(x, 0, Check.NONE, 0);
        x.say(W, BOTH, 0, 1);
        x.say(W, SURE, 0, 0);
        x.say(L, SURE, 1, 1);
        expectLoopholes(x, 0, Check.NONE, 0);
        x.say(I, NOT, 1, 1);
        expectLoopholes(x, 1, 12 * 2 + 3, 4);
        x.say(O, NOT, 0, 0);
        expectLoopholes(x, 2, 12 + 4, 2 + 4);
        x.say(A, EITHER, 0, 1);
        expectLoopholes(x, 4, 12 + 4, 8 + 16);
        x.say(A, ONE, 0, 1);
        expectLoopholes(x, 4, 12 + 4, 8 + 16);
        CHECK.due("what 2", x.loopholes(2), Check.BAD);
        CHECK.due("what -1", x.loopholes(-1), Check.BAD);
        ProphetFines last = Check.told(ALL_KINDS);
        for (int i = 0; i < 10; i++) {
            last.say(W, BOTH, 0, 1);
        }
        last.say(W, NOT, 0, 0);
        last.say(W, SURE, 0, 0);
        expectLoopholes(last, 1, 12 * 10 + 11, 1 << 10);
        ProphetFines fresh = Check.told(ALL_KINDS);
        fresh.say(W, NOT, 1, 1);
        fresh.say(W, SURE, 1, 1);
        CHECK.due("the first, asked for at first", fresh.loopholes(1), 1);
        fresh.year(0);
        fresh.say(W, NOT, 0, 0);
        fresh.say(W, SURE, 0, 0);
        CHECK.due("shut, asked for at first", fresh.shut(), 1);
        expectLoopholes(fresh, 1, 1, 1);
        fresh.unsay();
        CHECK.due("no loophole any more", fresh.shut(), 0);
        fresh.say(W, EITHER, 0, 1);
        CHECK.due("another one", fresh.loopholes(1), 1);
        fresh.unsay();
        CHECK.due("none again", fresh.loopholes(1), Check.NONE);
        fresh.year(0);
        fresh.say(W, SURE, 1, 1);
        fresh.say(W, SURE, 0, 0);
        fresh.say(W, NOT, 1, 1);
        CHECK.due("nothing is left of the last year", fresh.shut(), 1);
    }

    private static void expectLoopholes(ProphetFines x, int many, int first, int shut) {
        String name = " with " + x.count(3) + " sayings";
        CHECK.due("loopholes" + name, x.loopholes(0), many);
        CHECK.due("the first" + name, x.loopholes(1), first);
        CHECK.due("shut" + name, x.shut(), shut);
    }

    private static void expectGroup(ProphetFines x, int n, int sum, int... codes) {
        CHECK.due("sum of " + n, x.group(n, -1), sum);
        for (int k = 0; k < n; k++) {
            CHECK.due("wording " + k + " of " + n, x.group(n, k), codes[k]);
        }
    }

    private static void group() {
        CHECK.due("no republic goes ahead of BAD", new ProphetFines().group(4, 0), Check.STATE);
        ProphetFines even = Check.told("f5,10;v10;");
        expectGroup(even, 1, Check.NONE, Check.NONE);
        expectGroup(even, 2, 4000, 0, 36);
        expectGroup(even, 3, 6000, 0, 0, 36);
        ProphetFines rare = Check.told("f1,50;v6;l1;");
        expectGroup(rare, 2, 520, 0, 36);
        expectGroup(rare, 3, 760, 0, 0, 36);
        rare.say(0, SURE, 0, 0);
        expectGroup(rare, 2, 520, 0, 36);
        rare.chance(0, 14);
        expectGroup(rare, 3, 760, 0, 36, 36);
        CHECK.due("n 0", even.group(0, -1), Check.BAD);
        CHECK.due("n 4", even.group(4, 0), Check.BAD);
        CHECK.due("k -2", even.group(2, -2), Check.BAD);
        CHECK.due("k 2 of 2", even.group(2, 2), Check.BAD);
        CHECK.due("k 1 of 1", even.group(1, 1), Check.BAD);
        CHECK.due("k 3 of 3", even.group(3, 3), Check.BAD);
    }

    private static void expectCould(ProphetFines x, String name, int i, int many, int least, int sure) {
        CHECK.due(name + ": how many", x.could(0, i, 0), many);
        CHECK.due(name + ": the least", x.could(0, i, 1), least);
        CHECK.due(name + ": sure", x.could(0, i, 2), sure);
        CHECK.due(name + ": no finding", x.status(), 0);
    }

    private static void could() {
        ProphetFines x = Check.told(ALL_KINDS);
        x.say(W, SURE, 0, 0);
        x.say(L, SURE, 1, 1);
        Check.fill(x, 0, 37, -1, -1, -1, -1, -2);
        expectCould(x, "event 0 came", 0, 2, 1, 1);
        Check.fill(x, 0, 37, 0, -1, -1, -1);
        expectCould(x, "event 0 alone came", 0, 1, 1, 3);
        Check.fill(x, 0, 0, 13, 0, 0, 0);
        expectCould(x, "event 1 alone came", 0, 1, 2, 3);
        Check.fill(x, 0, -2, -1, -1, -1, -1, -1);
        expectCould(x, "nothing is known", 1, 4, 0, 0);
        Check.fill(x, 0, -1, 0, -1, -1, -1);
        expectCould(x, "event 1 did not come", 0, 2, 0, 2);
        Check.fill(x, 0, 5, -1, -1, -1, -1);
        expectCould(x, "nothing fits", 0, 0, Check.NONE, Check.NONE);
        Check.fill(x, 0, -1, -1, -1, -1, 1);
        expectCould(x, "a fool is not fined", 0, 0, Check.NONE, Check.NONE);
        x.say(W, BOTH, 0, 1);
        Check.fill(x, 0, 79, -1, -1, -1, -1);
        expectCould(x, "fines are added", 0, 1, 3, 3);
        ProphetFines empty = Check.told("f1,0;v1;v2;");
        empty.row(0, 0, 0);
        expectCould(empty, "no prophets", 0, 4, 0, 0);
        CHECK.due("beyond the end", empty.could(0, 1, 0), Check.PLACE);
    }

    private static void couldRefused() {
        ProphetFines none = new ProphetFines();
        CHECK.due("no republic goes ahead of BAD", none.could(8, 0, 3), Check.STATE);
        ProphetFines x = Check.told(ALL_KINDS);
        CHECK.due("row 8", x.could(8, 0, 0), Check.BAD);
        CHECK.due("row -1", x.could(-1, 0, 0), Check.BAD);
        CHECK.due("what 3", x.could(0, 0, 3), Check.BAD);
        CHECK.due("what -1", x.could(0, 0, -1), Check.BAD);
        CHECK.due("missing", x.could(0, -1, 0), Check.NULL);
        CHECK.due("status", x.status(), 1);
        Check.fill(x, 0, -2, -1, -1, -1, -1, -1);
        CHECK.due("place -1", x.could(0, -1, 0), Check.PLACE);
        CHECK.due("place 2", x.could(0, 2, 0), Check.PLACE);
        CHECK.due("the last place of all", x.could(0, Integer.MAX_VALUE, 0), Check.PLACE);
        CHECK.due("the first place of all", x.could(0, Integer.MIN_VALUE, 0), Check.PLACE);
        CHECK.due("status", x.status(), 2);
        CHECK.due("an item below -1", x.could(0, 0, 0), Check.BAD);
        CHECK.due("BAD leaves status", x.status(), 2);
        CHECK.due("it is not looked at", x.could(0, 1, 0), 4);
        CHECK.due("status", x.status(), 0);
        x.row(0, 2, 4);
        CHECK.due("fewer items than prophets", x.could(0, 0, 0), Check.PLACE);
        x.set(0, 0, -2);
        CHECK.due("PLACE goes ahead of an item", x.could(0, 0, 0), Check.PLACE);
    }

    private static void premium() {
        ProphetFines x = Check.told(ALL_KINDS);
        x.say(W, SURE, 0, 0);
        x.say(A, SURE, 1, 1);
        x.say(I, NOT, 0, 0);
        x.say(O, SURE, 0, 0);
        x.say(O, SURE, 1, 1);
        expectFraction("a weatherman's", x.premium(0, 0), x.premium(0, 1), 37, 4);
        expectFraction("an almanac's", x.premium(1, 0), x.premium(1, 1), 27, 1);
        expectFraction("a fool's", x.premium(2, 0), x.premium(2, 1), 0, 1);
        expectFraction("an oracle's", x.premium(3, 0), x.premium(3, 1), 15, 4);
        ProphetFines six = Check.told("f20,50;v1;v3;v7;v9;v11;v13;o50;");
        for (int e = 0; e < 6; e++) {
            six.say(0, SURE, e, e);
        }
        expectFraction("six at once", six.premium(0, 0), six.premium(0, 1), 1702701, 32000000);
        CHECK.due("saying 5", x.premium(5, 0), Check.BAD);
        CHECK.due("saying -1", x.premium(-1, 0), Check.BAD);
        CHECK.due("what 2", x.premium(0, 2), Check.BAD);
        CHECK.due("what -1", x.premium(0, -1), Check.BAD);
    }

    private static void heeded() {
        CHECK.due("no republic", new ProphetFines().heeded(), Check.STATE);
        ProphetFines x = Check.told("f1,0;v10;w0;l0;a0;");
        CHECK.due("nobody yet", x.heeded(), Check.NONE);
        x.say(2, SURE, 0, 0);
        CHECK.due("a saying is no record", x.heeded(), Check.NONE);
        x.year(0);
        CHECK.due("who was wrong alone", x.heeded(), 2);
        x.say(1, NOT, 0, 0);
        x.say(1, NOT, 0, 0);
        x.say(1, SURE, 0, 0);
        x.year(0);
        CHECK.due("two of three", x.heeded(), 1);
        x.say(0, NOT, 0, 0);
        x.say(0, NOT, 0, 0);
        x.say(0, NOT, 0, 0);
        x.say(0, NOT, 0, 0);
        x.say(0, SURE, 0, 0);
        x.say(0, SURE, 0, 0);
        x.year(0);
        CHECK.due("four of six, the first", x.heeded(), 0);
        x.say(0, SURE, 0, 0);
        x.say(1, SURE, 0, 0);
        x.say(2, NOT, 0, 0);
        x.say(2, NOT, 0, 0);
        x.say(2, NOT, 0, 0);
        x.year(0);
        CHECK.due("three of four, though another was right four times", x.heeded(), 2);
    }

    private static void plain() {
        ProphetFines x = Check.told(ALL_KINDS);
        CHECK.due("nothing said", x.plain(W), 4);
        x.say(W, BOTH, 0, 1);
        x.say(I, EITHER, 0, 1);
        CHECK.due("BOTH", x.plain(W), 3);
        CHECK.due("a fool", x.plain(I), 4);
        x.say(O, SURE, 0, 0);
        x.say(O, SURE, 1, 1);
        CHECK.due("an oracle gains", x.plain(O), 1);
        ProphetFines unheeded = Check.told("f10,7;v5;v10;o0;");
        unheeded.say(0, SURE, 0, 0);
        unheeded.say(0, SURE, 1, 1);
        CHECK.due("an oracle who is not heeded", unheeded.plain(0), 3);
        ProphetFines cheap = Check.told("f1,0;v19;w0;");
        cheap.say(0, SURE, 0, 0);
        CHECK.due("a fine of 0", cheap.plain(0), 2);
        ProphetFines evened = Check.told("f5,0;v10;w10;");
        evened.say(0, SURE, 0, 0);
        CHECK.due("net is 0", evened.net(0, 1), 0);
        CHECK.due("but he is fined and gains", evened.plain(0), 1);
        CHECK.due("prophet 5", x.plain(5), Check.BAD);
        CHECK.due("prophet -1", x.plain(-1), Check.BAD);
    }

    private static void nothingChanges() {
        ProphetFines x = Check.told(ALL_KINDS);
        x.say(W, SURE, 0, 0);
        x.say(O, NOT, 0, 0);
        x.expected(W, 0);
        x.worst(W, 0);
        x.cheapest(W, 0, 0);
        x.loopholes(0);
        x.shut();
        x.group(3, 0);
        x.premium(0, 0);
        x.heeded();
        x.plain(0);
        CHECK.due("sayings", x.count(3), 2);
        CHECK.due("years", x.count(4), 0);
        CHECK.due("acts", x.count(5), 2);
        CHECK.due("fine", x.fine(0, 1), 37);
    }
}
