/** Part 3 and promises 20 to 31: each sentence that names an edge of what is foretold, of groups, sets and images. */
public final class ForetoldEdgesTest {
    private static final Check CHECK = new Check();
    private static final int SURE = 0, NOT = 1, BOTH = 2, EITHER = 3, ONE = 4;
    private static final int MIN = Integer.MIN_VALUE, MAX = Integer.MAX_VALUE;
    private static final String EVEN_SIX = "f1,0;v10;v10;v10;v10;v10;v10;w0;";
    /** FINES of an oracle who says each EVENT for SURE: 3, 3, 2, 2, 1, 0; no CHANCE has a divisor of 20. */
    private static final String ORACLE_OF_SIX = "f1,0;v1;v3;v7;v9;v11;v17;o0;";

    public static void main(String[] args) {
        fractionOf0();
        fractionInLowestTerms();
        fractionBelow0();
        meanOverAllSets();
        eachAskedAtFirst();
        fractionOfWhat();
        worstOfSeveral();
        worstThatIsAGain();
        cheapestOfOneEvent();
        cheapestIsTrueWheneverItComes();
        cheapestOfSeveral();
        cheapestBehindAllThatStand();
        cheapestHavingNoOthers();
        loopholeOfEachPair();
        firstLoophole();
        mostLoopholes();
        shutLeast();
        shutOfNothing();
        groupOfOne();
        groupPlaces();
        groupsFirstOfSeveral();
        groupAsOfAWeatherman();
        groupThatCostsNothing();
        couldPlaces();
        couldItems();
        couldOfFull();
        couldSure();
        couldWithoutProphets();
        couldRefusals();
        premiumEdges();
        heededEdges();
        plainEdges();
        imagesOf0And1();
        restoreKeepsTheImage();
        imagesStandApart();
        imageIsOfTheRepublicAlone();
        CHECK.end();
    }

    private static void expectFraction(String name, long above, long below, long dueAbove, long dueBelow) {
        CHECK.due(name + ", above", above, dueAbove);
        CHECK.due(name + ", below", below, dueBelow);
    }

    private static void expectMean(String name, ProphetFines x, int p, long above, long below) {
        expectFraction(name, x.expected(p, 0), x.expected(p, 1), above, below);
    }

    private static void expectPremium(String name, ProphetFines x, int s, long above, long below) {
        expectFraction(name, x.premium(s, 0), x.premium(s, 1), above, below);
    }

    private static void sayAllSure(ProphetFines x, int p) {
        for (int e = 0; e < x.count(1); e++) {
            x.say(p, SURE, e, e);
        }
    }

    private static void fractionOf0() {
        CHECK.says("fractions, told as two numbers in lowest terms (0 is 0 by 1)");
        ProphetFines x = Check.told("f5,0;v10;w10;i50;");
        expectMean("nothing said", x, 0, 0, 1);
        x.say(0, SURE, 0, 0);
        expectMean("a gain as high as the fine", x, 0, 0, 1);
        x.say(1, SURE, 0, 0);
        expectMean("a fool", x, 1, 0, 1);
        expectPremium("a fool's", x, 1, 0, 1);
        ProphetFines free = Check.told("f1,0;v16;w0;");
        free.say(0, SURE, 0, 0);
        expectMean("a fine of 0", free, 0, 0, 1);
        expectPremium("a fine of 0", free, 0, 0, 1);
    }

    private static void fractionInLowestTerms() {
        CHECK.says("fractions, told as two numbers in lowest terms");
        ProphetFines x = Check.told(ORACLE_OF_SIX);
        sayAllSure(x, 0);
        expectMean("the most that can be below", x, 0, -11 * 35343, 64000000);
        expectPremium("3 at once of 64000000", x, 0, 3 * 35343, 64000000);
        expectPremium("2 at once", x, 2, 35343, 32000000);
        expectPremium("0", x, 5, 0, 1);
        ProphetFines six = Check.told("f20,0;v10;v10;v10;v10;v10;v10;w0;");
        six.say(0, SURE, 5, 5);
        expectMean("a whole number, of six events", six, 0, -20, 1);
        expectPremium("a whole number, of six events", six, 0, 20, 1);
        six.say(0, BOTH, 0, 5);
        expectMean("20 and a fourth of 60", six, 0, -35, 1);
        six.say(0, EITHER, 3, 4);
        expectMean("and three fourths of 20", six, 0, -50, 1);
        six.chance(0, 1);
        expectMean("20 and 15 and one of 40 of 78", six, 0, -739, 20);
    }

    private static void fractionBelow0() {
        CHECK.says("EXPECTED: above (what = 0; can be below 0), below (1)");
        ProphetFines x = Check.told("f20,50;v1;w0;w50;");
        x.say(0, SURE, 0, 0);
        expectMean("126 of 20", x, 0, -63, 10);
        x.unsay();
        x.say(1, NOT, 0, 0);
        expectMean("50 less 54, 19 of 20", x, 1, -19, 5);
        x.say(1, NOT, 0, 0);
        expectMean("50 less 4 more", x, 1, 19 * (100 - 58) / 2, 10);
    }

    /** What is TRUE when nothing comes, and when all comes, counts once. */
    private static void meanOverAllSets() {
        CHECK.says("the mean of NET of a YEAR, as SAYINGS stand: a fraction");
        StringBuilder text = new StringBuilder("f20,0;");
        for (int many = 1; many <= 6; many++) {
            text.append("v5;");
            ProphetFines x = Check.told(text + "w0;o0;o0;");
            x.say(0, NOT, many - 1, many - 1);
            expectMean("NOT", x, 0, -15, 1);
            expectPremium("NOT", x, 0, 15, 1);
            x.unsay();
            x.say(0, SURE, 0, 0);
            expectMean("SURE", x, 0, -15, 1);
            expectPremium("SURE", x, 0, 15, 1);
            x.unsay();
            long fours = 1;
            long threes = 1;
            for (int e = 0; e < many; e++) {
                x.say(1, SURE, e, e);
                x.say(2, NOT, e, e);
                fours *= 4;
                threes *= 3;
            }
            int low = Integer.numberOfTrailingZeros(60 * many);
            long divisor = Math.min(1L << low, fours);
            expectMean("all of them", x, 1, -60 * many / divisor, fours / divisor);
            low = Integer.numberOfTrailingZeros(20 * many);
            divisor = Math.min(1L << low, fours);
            expectMean("none of them", x, 2, -20 * many * threes / divisor, fours / divisor);
        }
    }

    private interface Question {
        long of(ProphetFines x);
    }

    private static void eachAskedAtFirst() {
        CHECK.says("FORETOLD (nothing changes) [and nothing need be asked ahead]");
        Question[] questions = {
            x -> x.fine(1, 1), x -> x.net(0, 1), x -> x.expected(0, 0), x -> x.worst(0, 1), x -> x.loopholes(0),
            x -> x.loopholes(1), x -> x.shut(), x -> x.could(0, 0, 1), x -> x.premium(1, 1), x -> x.plain(0), x -> x.year(1),
            x -> x.cheapest(0, 0, 3), x -> x.group(2, -1)};
        long[] due = {37, 6 - 37, -16, 6 - 37, 1, 1, 1, 1, 4, 0, 1, 100 * 30, 100 * 30 + 300 * 10};
        long[] dueTheOtherWay = due.clone();
        dueTheOtherWay[0] = 0;
        dueTheOtherWay[7] = 0;
        for (int n = 0; n < questions.length; n++) {
            ProphetFines x = Check.told("f10,7;v5;w6;");
            x.row(0, 2, 1);
            x.set(0, 0, 37);
            x.say(0, NOT, 0, 0);
            x.say(0, SURE, 0, 0);
            CHECK.due("question " + n, questions[n].of(x), due[n]);
            x.year(0);
            x.set(0, 0, 17);
            x.say(0, SURE, 0, 0);
            x.say(0, NOT, 0, 0);
            CHECK.due("question " + n + ", said the other way", questions[n].of(x), dueTheOtherWay[n]);
        }
    }

    private static void fractionOfWhat() {
        CHECK.says("can be below 0), below (1). BAD .. PREMIUM: above (what = 0), below (1). BAD .. WORST: the set (what = 0), NET (1). BAD .. PLAIN. BAD");
        ProphetFines x = Check.told("f20,50;v1;w0;");
        x.say(0, SURE, 0, 0);
        for (int no : new int[] {MIN, -1, 2, MAX}) {
            CHECK.due("expected, what " + no, x.expected(0, no), Check.BAD);
            CHECK.due("premium, what " + no, x.premium(0, no), Check.BAD);
            CHECK.due("worst, what " + no, x.worst(0, no), Check.BAD);
        }
        for (int no : new int[] {MIN, -1, 1, MAX}) {
            CHECK.due("expected of " + no, x.expected(no, 0), Check.BAD);
            CHECK.due("premium of " + no, x.premium(no, 0), Check.BAD);
            CHECK.due("worst of " + no, x.worst(no, 0), Check.BAD);
            CHECK.due("plain of " + no, x.plain(no), Check.BAD);
        }
    }

    private static void expectWorst(String name, ProphetFines x, int set, int net) {
        CHECK.due(name + ": the set", x.worst(0, 0), set);
        CHECK.due(name + ": NET", x.worst(0, 1), net);
    }

    private static void worstOfSeveral() {
        CHECK.says("WORST: the set of EVENTS by which his NET is least, of several the least; that NET");
        ProphetFines x = Check.told(EVEN_SIX);
        expectWorst("nothing said", x, 0, 0);
        x.say(0, SURE, 5, 5);
        expectWorst("of 32 sets the least", x, 32, -2);
        x.say(0, SURE, 0, 0);
        expectWorst("of 16 sets the least", x, 33, -4);
        x.say(0, NOT, 5, 5);
        expectWorst("whether 5 comes or not", x, 1, -4);
        ProphetFines all = Check.told(EVEN_SIX);
        sayAllSure(all, 0);
        expectWorst("the last set", all, 63, -12);
        ProphetFines none = Check.told(EVEN_SIX);
        for (int e = 0; e < 6; e++) {
            none.say(0, NOT, e, e);
        }
        expectWorst("the first set", none, 0, -12);
    }

    private static void worstThatIsAGain() {
        CHECK.says("WORST: the set of EVENTS by which his NET is least [above 0]");
        ProphetFines x = Check.told("f1,0;v4;w50;");
        x.say(0, SURE, 0, 0);
        expectWorst("no gain", x, 0, 0);
        x.say(0, NOT, 0, 0);
        expectWorst("the lesser gain", x, 1, 47);
        ProphetFines same = Check.told("f1,0;v10;w50;");
        same.say(0, SURE, 0, 0);
        same.say(0, NOT, 0, 0);
        expectWorst("the same by both", same, 0, 48);
    }

    private static void expectCheapest(String name, ProphetFines x, int p, int event, int... due) {
        for (int what = 0; what < 4; what++) {
            CHECK.due(name + ": what " + what, x.cheapest(p, event, what), due[what]);
        }
    }

    private static void cheapestOfOneEvent() {
        CHECK.says("CHEAPEST: FORM (what = 0), e (1), f (2), ODDS times FINE (3). BAD");
        ProphetFines x = Check.told("f20,50;v1;a0;");
        expectCheapest("the only one", x, 0, 0, SURE, 0, 0, 20 * 2 * (76 + 50));
        for (int no : new int[] {MIN, -1, 1, MAX}) {
            CHECK.due("prophet " + no, x.cheapest(no, 0, 0), Check.BAD);
            CHECK.due("event " + no, x.cheapest(0, no, 0), Check.BAD);
        }
        for (int no : new int[] {MIN, -1, 4, MAX}) {
            CHECK.due("what " + no, x.cheapest(0, 0, no), Check.BAD);
        }
    }

    /** BOTH costs 300 too, and comes ahead by its FORM; but it warns of nothing. */
    private static void cheapestIsTrueWheneverItComes() {
        CHECK.says("of all WORDINGS that are TRUE whenever it comes");
        ProphetFines x = Check.told(EVEN_SIX);
        for (int e = 0; e < 6; e++) {
            expectCheapest("of " + e, x, 0, e, EITHER, 0, Math.max(e, 1), 300);
        }
        ProphetFines not = Check.told("f1,0;v1;v2;w0;");
        expectCheapest("NOT 0 costs nothing, but does not warn", not, 0, 0, SURE, 0, 0, 20 * 3);
        expectCheapest("NOT 0 costs nothing, but does not warn", not, 0, 1, SURE, 1, 1, 40 * 3);
    }

    private static void cheapestOfSeveral() {
        CHECK.says("ODDS times FINE is least, of several the first (by FORM, e, f)");
        ProphetFines fool = Check.told("f20,50;v1;v2;v3;v4;v5;v6;i0;");
        for (int e = 0; e < 6; e++) {
            expectCheapest("a fool pays nothing for any", fool, 0, e, SURE, e, e, 0);
        }
        ProphetFines free = Check.told("f1,0;v1;v2;v16;v16;v16;v16;w0;");
        expectCheapest("SURE ahead of EITHER", free, 0, 5, SURE, 5, 5, 0);
        expectCheapest("f 2 ahead of 3, 4, 5", free, 0, 0, EITHER, 0, 2, 0);
        ProphetFines tie = Check.told("f1,0;v15;v17;v17;v15;w0;");
        expectCheapest("by f: 1 ahead of 2", tie, 0, 0, EITHER, 0, 1, 0);
        expectCheapest("by e: 0 ahead of 1", tie, 0, 3, EITHER, 0, 3, 0);
    }

    private static void cheapestBehindAllThatStand() {
        CHECK.says("said now by a PROPHET behind all that stand");
        ProphetFines x = Check.told("f1,50;v10;v10;w0;w0;");
        expectCheapest("none stands: FIRST with all", x, 0, 0, SURE, 0, 0, 200 * 52);
        x.say(1, EITHER, 0, 1);
        expectCheapest("EITHER was said by another", x, 0, 0, EITHER, 0, 1, 300);
        x.say(0, SURE, 0, 0);
        expectCheapest("SURE by himself", x, 0, 0, EITHER, 0, 1, 300);
        x.unsay();
        x.unsay();
        x.say(0, SURE, 0, 0);
        expectCheapest("by himself alone", x, 0, 0, SURE, 0, 0, 400);
        expectCheapest("of the other event", x, 0, 1, SURE, 1, 1, 200 * 52);
    }

    private static void cheapestHavingNoOthers() {
        CHECK.says("he having no others");
        ProphetFines x = Check.told("f1,0;v10;v10;o0;");
        expectCheapest("an oracle", x, 0, 0, EITHER, 0, 1, 300);
        x.say(0, NOT, 0, 0);
        x.say(0, NOT, 1, 1);
        expectCheapest("whose others would not be TRUE", x, 0, 0, EITHER, 0, 1, 300);
    }

    private static int[][] wordingsOf(int events) {
        int[][] all = new int[2 * events + 3 * events * (events - 1) / 2][];
        int n = 0;
        for (int form = SURE; form <= ONE; form++) {
            for (int e = 0; e < events; e++) {
                for (int f = form < BOTH ? e : e + 1; f < (form < BOTH ? e + 1 : events); f++) {
                    all[n++] = new int[] {form, e, f};
                }
            }
        }
        return all;
    }

    /** One says that e does not come; the other that it does, alone or as one of two. */
    private static boolean isLoophole(int[] a, int[] b) {
        int[] not = a[0] == NOT ? a : b;
        int[] other = not == a ? b : a;
        boolean says = other[0] == SURE || other[0] == EITHER;
        return not[0] == NOT && says && (other[1] == not[1] || other[2] == not[1]);
    }

    private static void loopholeOfEachPair() {
        CHECK.says("pairs of SAYINGS that stand of which one at least is TRUE whatever comes");
        for (int events : new int[] {1, 2, 3, 6}) {
            StringBuilder text = new StringBuilder("f1,0;");
            for (int e = 0; e < events; e++) {
                text.append("v10;");
            }
            int[][] all = wordingsOf(events);
            for (int[] a : all) {
                for (int[] b : all) {
                    ProphetFines x = Check.told(text + "w0;i0;");
                    x.say(0, a[0], a[1], a[2]);
                    x.say(1, b[0], b[1], b[2]);
                    boolean isOne = isLoophole(a, b);
                    CHECK.due("how many", x.loopholes(0), isOne ? 1 : 0);
                    CHECK.due("the first", x.loopholes(1), isOne ? 1 : Check.NONE);
                    CHECK.due("shut", x.shut(), isOne ? 1 : 0);
                }
            }
        }
    }

    private static void expectLoopholes(String name, ProphetFines x, int many, int first, int shut) {
        CHECK.due(name + ": how many", x.loopholes(0), many);
        CHECK.due(name + ": the first", x.loopholes(1), first);
        CHECK.due(name + ": shut", x.shut(), shut);
    }

    private static void firstLoophole() {
        CHECK.says("how many; the first (12 times the lesser and the other); NONE");
        for (int s = 0; s < 12; s++) {
            for (int t = s + 1; t < 12; t++) {
                ProphetFines x = Check.told("f1,0;v10;v10;w0;");
                for (int n = 0; n < 12; n++) {
                    x.say(0, n == s ? NOT : n == t ? SURE : BOTH, 0, n == s || n == t ? 0 : 1);
                }
                expectLoopholes(s + " and " + t, x, 1, 12 * s + t, 1 << s);
            }
        }
        ProphetFines x = Check.told("f1,0;v10;v10;w0;");
        expectLoopholes("none stand", x, 0, Check.NONE, 0);
        x.say(0, SURE, 0, 0);
        expectLoopholes("one stands", x, 0, Check.NONE, 0);
        x.say(0, SURE, 1, 1);
        x.say(0, NOT, 1, 1);
        x.say(0, NOT, 0, 0);
        expectLoopholes("by the lesser, then the other", x, 2, 3, 1 + 2);
        for (int no : new int[] {MIN, -1, 2, MAX}) {
            CHECK.due("what " + no, x.loopholes(no), Check.BAD);
        }
    }

    private static void mostLoopholes() {
        CHECK.says("LOOPHOLES: .. how many [12 stand]");
        ProphetFines x = Check.told("f1,0;v10;w0;");
        for (int n = 0; n < 12; n++) {
            x.say(0, n % 2 == 0 ? SURE : NOT, 0, 0);
        }
        expectLoopholes("by turns", x, 36, 1, 0x555);
        ProphetFines y = Check.told("f1,0;v10;w0;");
        for (int n = 0; n < 12; n++) {
            y.say(0, n < 6 ? SURE : NOT, 0, 0);
        }
        expectLoopholes("six and six", y, 36, 6, 63);
        ProphetFines z = Check.told("f1,0;v10;w0;");
        for (int n = 0; n < 12; n++) {
            z.say(0, n < 11 ? SURE : NOT, 0, 0);
        }
        expectLoopholes("eleven and one", z, 11, 11, 1 << 11);
    }

    private static void shutLeast() {
        CHECK.says("the fewest SAYINGS (bits) that must be taken away so that there is no LOOPHOLE, of several sets the least");
        ProphetFines x = Check.told(EVEN_SIX);
        for (int e = 5; e >= 0; e--) {
            x.say(0, SURE, e, e);
        }
        for (int e = 0; e < 6; e++) {
            x.say(0, NOT, e, e);
        }
        expectLoopholes("six pairs", x, 6, 11, 63);
        x.unsay();
        expectLoopholes("five pairs", x, 5, 12 + 10, 62);
        ProphetFines few = Check.told(EVEN_SIX);
        few.say(0, EITHER, 0, 1);
        few.say(0, SURE, 0, 0);
        few.say(0, SURE, 1, 1);
        few.say(0, NOT, 1, 1);
        few.say(0, NOT, 0, 0);
        expectLoopholes("two with more bits are fewer than three", few, 4, 3, 8 + 16);
        few.say(0, EITHER, 0, 5);
        few.say(0, NOT, 5, 5);
        expectLoopholes("and one of the last pair", few, 6, 3, 8 + 16 + 32);
    }

    private static void shutOfNothing() {
        CHECK.says("SHUT. STATE: no REPUBLIC");
        ProphetFines x = new ProphetFines();
        CHECK.due("no republic", x.shut(), Check.STATE);
        Check.tell(x, "f1,0;v1;");
        CHECK.due("no prophets", x.shut(), 0);
        Check.tell(x, EVEN_SIX);
        CHECK.due("nothing said", x.shut(), 0);
        x.say(0, SURE, 0, 0);
        x.say(0, NOT, 0, 0);
        CHECK.due("a pair", x.shut(), 1);
        x.year(0);
        CHECK.due("none stand behind a year", x.shut(), 0);
    }

    private static void expectGroup(String name, ProphetFines x, int n, int sum, int... wordings) {
        CHECK.due(name + ": the sum", x.group(n, -1), sum);
        for (int k = 0; k < n; k++) {
            CHECK.due(name + ": wording " + k, x.group(n, k), wordings[k]);
        }
    }

    private static int wording(int form, int e, int f) {
        return 36 * form + 6 * e + f;
    }

    private static void groupOfOne() {
        CHECK.says("GROUP of n (1 to 3) PROPHETS: .. NONE");
        for (String text : new String[] {"f1,0;v19;", "f20,50;v1;v19;", EVEN_SIX}) {
            expectGroup("no wording is always TRUE", Check.told(text), 1, Check.NONE, Check.NONE);
        }
        for (String text : new String[] {"f1,0;v10;", "f20,50;v10;w0;"}) {
            int fine = text.startsWith("f20") ? 40 : 2;
            ProphetFines x = Check.told(text);
            expectGroup("two", x, 2, 2 * 200 * fine, wording(SURE, 0, 0), wording(NOT, 0, 0));
            expectGroup("three", x, 3, 3 * 200 * fine, wording(SURE, 0, 0), wording(SURE, 0, 0), wording(NOT, 0, 0));
        }
    }

    private static void groupPlaces() {
        CHECK.says("the sum (k = -1), the k-th WORDING (0 to n less 1); NONE. BAD");
        ProphetFines x = Check.told(EVEN_SIX);
        for (int n = 1; n <= 3; n++) {
            for (int k : new int[] {MIN, -3, -2, n, n + 1, MAX}) {
                CHECK.due("group(" + n + ", " + k + ")", x.group(n, k), Check.BAD);
            }
            CHECK.holds("the sum of " + n, x.group(n, -1) != Check.BAD);
            CHECK.holds("the last of " + n, x.group(n, n - 1) != Check.BAD);
        }
        for (int no : new int[] {MIN, -1, 0, 4, MAX}) {
            CHECK.due("group(" + no + ", -1)", x.group(no, -1), Check.BAD);
            CHECK.due("group(" + no + ", 0)", x.group(no, 0), Check.BAD);
        }
    }

    /** By 10 of 20 and rate 1, BOTH and EITHER cost 300, the others 400. */
    private static void groupsFirstOfSeveral() {
        CHECK.says("of several the first (by WORDINGS, in the order of FORM, e, f, no one less than the one ahead)");
        ProphetFines two = Check.told("f1,0;v10;v10;");
        expectGroup("two", two, 2, 700, wording(NOT, 0, 0), wording(EITHER, 0, 1));
        expectGroup("three", two, 3, 1000, wording(NOT, 0, 0), wording(BOTH, 0, 1), wording(EITHER, 0, 1));
        ProphetFines six = Check.told(EVEN_SIX);
        expectGroup("two of six", six, 2, 700, wording(NOT, 0, 0), wording(EITHER, 0, 1));
        expectGroup("three of six", six, 3, 1000, wording(NOT, 0, 0), wording(BOTH, 0, 1), wording(EITHER, 0, 1));
        ProphetFines rare = Check.told("f5,0;v1;v1;");
        expectGroup("EVENT 0 ahead of 1", rare, 2, 380 + 380, wording(SURE, 0, 0), wording(NOT, 0, 0));
        ProphetFines last = Check.told("f1,0;v10;v6;v7;v12;v11;v4;");
        expectGroup("with the last wording of all", last, 3, 212, wording(NOT, 5, 5), wording(EITHER, 0, 4), wording(ONE, 4, 5));
        expectGroup("with BOTH", rare, 3, 380 + 380 + 19, wording(SURE, 0, 0), wording(NOT, 0, 0), wording(BOTH, 0, 1));
    }

    private static void groupAsOfAWeatherman() {
        CHECK.says("each times its FINE (as of a weatherman, FIRST aside)");
        for (String prophets : new String[] {"", "w50;", "l50;", "a50;", "o50;", "i50;"}) {
            for (int first : new int[] {0, 50}) {
                ProphetFines x = Check.told("f5," + first + ";v5;" + prophets);
                expectGroup("with " + prophets, x, 2, 100 * 15 + 300 * 5, wording(SURE, 0, 0), wording(NOT, 0, 0));
                x.say(0, SURE, 0, 0);
                x.say(0, NOT, 0, 0);
                expectGroup("all said", x, 2, 100 * 15 + 300 * 5, wording(SURE, 0, 0), wording(NOT, 0, 0));
                expectGroup("three", x, 3, 100 * 15 * 2 + 300 * 5, wording(SURE, 0, 0), wording(SURE, 0, 0), wording(NOT, 0, 0));
            }
        }
    }

    private static void groupThatCostsNothing() {
        CHECK.says("added, are least [of WORDINGS that cost nothing]");
        ProphetFines x = Check.told("f1,0;v16;");
        expectGroup("two", x, 2, 80 * 3, wording(SURE, 0, 0), wording(NOT, 0, 0));
        expectGroup("three", x, 3, 80 * 3, wording(SURE, 0, 0), wording(SURE, 0, 0), wording(NOT, 0, 0));
        x.chance(0, 4);
        expectGroup("three, the other way", x, 3, 80 * 3, wording(SURE, 0, 0), wording(NOT, 0, 0), wording(NOT, 0, 0));
        ProphetFines dear = Check.told("f20,0;v10;");
        expectGroup("the dearest", dear, 3, 3 * 200 * 40, wording(SURE, 0, 0), wording(SURE, 0, 0), wording(NOT, 0, 0));
    }

    private static void couldPlaces() {
        CHECK.says("as many ITEMS as PROPHETS, of a ROW from i on: .. PLACE");
        StringBuilder text = new StringBuilder("f1,0;v10;");
        for (int prophets = 1; prophets <= 5; prophets++) {
            text.append("w0;");
            ProphetFines x = Check.told(text.toString());
            for (int size : new int[] {prophets, prophets + 1, 39, 40}) {
                x.row(0, 0, size);
                CHECK.due("from the first", x.could(0, 0, 0), 2);
                CHECK.due("up to the end", x.could(0, size - prophets, 0), 2);
                for (int no : new int[] {MIN, -1, size - prophets + 1, size, size + 1, MAX, MAX - prophets + 1}) {
                    CHECK.due("from " + no + " of " + size, x.could(0, no, 0), Check.PLACE);
                    CHECK.due("status", x.status(), 2);
                }
            }
            x.row(0, 0, prophets - 1);
            CHECK.due("one ITEM too few", x.could(0, 0, 0), Check.PLACE);
            x.row(0, 0, 0);
            CHECK.due("no ITEMS", x.could(0, 0, 0), Check.PLACE);
        }
    }

    private static void couldItems() {
        CHECK.says("one ITEM for each, -1: it is not known .. then BAD: an ITEM below -1");
        ProphetFines x = Check.told("f5,0;v10;w0;w0;");
        x.say(0, SURE, 0, 0);
        for (int lane = 0; lane < 3; lane++) {
            x.row(0, lane, 4);
            int[][] itemsAndDue = {{-1, -1, 2}, {10, -1, 1}, {10, 0, 1}, {0, -1, 1}, {9, -1, 0}, {11, -1, 0}, {10, 1, 0},
                {-2, -1, Check.BAD}, {-1, -2, Check.BAD}, {-128, 0, Check.BAD}, {9, -2, Check.BAD}, {127, 127, 0}};
            for (int[] k : itemsAndDue) {
                x.set(0, 1, k[0]);
                x.set(0, 2, k[1]);
                x.set(0, 0, -2);
                x.set(0, 3, -2);
                CHECK.due(k[0] + " and " + k[1], x.could(0, 1, 0), k[2]);
            }
        }
        x.row(0, 2, 2);
        x.set(0, 0, MIN);
        CHECK.due("the least of all", x.could(0, 0, 0), Check.BAD);
        x.set(0, 0, MAX);
        CHECK.due("the most of all", x.could(0, 0, 0), 0);
    }

    private static void couldOfFull() {
        CHECK.says("how many sets of EVENTS there are by which FINES are so; the least; NONE");
        ProphetFines x = Check.told("f20,50;v1;v1;v1;v1;v1;v1;a0;w0;");
        for (int n = 0; n < 12; n++) {
            x.say(0, BOTH, n % 2 * 2, n % 2 * 2 + 1);
        }
        x.row(0, 1, 2);
        x.set(0, 1, -1);
        int[][] fineAndDue = {{-1, 64, 0}, {0, 36, 0}, {12 * 79 + 100, 24, 3}, {24 * 79 + 200, 4, 15}, {1, 0, Check.NONE}};
        for (int[] k : fineAndDue) {
            x.set(0, 0, k[0]);
            CHECK.due("fined " + k[0] + ": how many", x.could(0, 0, 0), k[1]);
            CHECK.due("fined " + k[0] + ": the least", x.could(0, 0, 1), k[2]);
        }
    }

    private static void couldSure() {
        CHECK.says("SURE: EVENTS (bits) that come in all of these, or in none of them");
        ProphetFines x = Check.told("f20,0;v10;v10;v10;v10;v10;v10;w0;w0;");
        x.say(0, BOTH, 0, 5);
        x.say(1, EITHER, 1, 4);
        x.row(0, 2, 2);
        int[][] itemsAndDue = {{-1, -1, 0}, {60, -1, 1 + 32}, {0, -1, 0}, {-1, 0, 2 + 16}, {60, 0, 1 + 2 + 16 + 32},
            {-1, 20, 0}, {5, -1, Check.NONE}};
        for (int[] k : itemsAndDue) {
            x.set(0, 0, k[0]);
            x.set(0, 1, k[1]);
            CHECK.due(k[0] + " and " + k[1], x.could(0, 0, 2), k[2]);
            CHECK.due("status", x.status(), 0);
        }
        ProphetFines one = Check.told("f5,0;v10;v10;v10;w0;");
        one.say(0, SURE, 0, 0);
        one.say(0, SURE, 1, 1);
        one.say(0, SURE, 1, 1);
        one.say(0, SURE, 2, 2);
        one.say(0, SURE, 2, 2);
        one.say(0, SURE, 2, 2);
        one.say(0, SURE, 2, 2);
        one.row(0, 2, 1);
        for (int set = 0; set < 8; set++) {
            one.set(0, 0, 10 * set);
            CHECK.due("one set alone: how many", one.could(0, 0, 0), 1);
            CHECK.due("one set alone: the least", one.could(0, 0, 1), set);
            CHECK.due("one set alone: all EVENTS are sure", one.could(0, 0, 2), 7);
        }
    }

    private static void couldWithoutProphets() {
        CHECK.says("as many ITEMS as PROPHETS [none]");
        ProphetFines x = Check.told("f1,0;v1;v1;v1;");
        CHECK.due("a missing row", x.could(0, 0, 0), Check.NULL);
        x.row(0, 2, 2);
        x.set(0, 0, -2);
        CHECK.due("all sets", x.could(0, 0, 0), 8);
        CHECK.due("the least", x.could(0, 2, 1), 0);
        CHECK.due("nothing is sure", x.could(0, 1, 2), 0);
        CHECK.due("beyond the end", x.could(0, 3, 0), Check.PLACE);
        CHECK.due("below 0", x.could(0, -1, 0), Check.PLACE);
    }

    private static void couldRefusals() {
        CHECK.says("BAD: ROW, what; STATE: no REPUBLIC (ahead of BAD); NULL; PLACE; then BAD: an ITEM below -1");
        ProphetFines x = Check.told("f1,0;v10;w0;");
        for (int no : new int[] {MIN, -1, 8, MAX}) {
            CHECK.due("row " + no, x.could(no, 0, 0), Check.BAD);
        }
        for (int no : new int[] {MIN, -1, 3, MAX}) {
            CHECK.due("what " + no, x.could(0, 0, no), Check.BAD);
        }
        CHECK.due("a missing row", x.could(7, 0, 0), Check.NULL);
        x.row(7, 0, 1);
        x.set(7, 0, -2);
        for (int what = 0; what < 3; what++) {
            CHECK.due("beyond, what " + what, x.could(7, 1, what), Check.PLACE);
            CHECK.due("below -1, what " + what, x.could(7, 0, what), Check.BAD);
        }
    }

    private static void premiumEdges() {
        CHECK.says("PREMIUM for a SAYING that stands: the mean of its FINE");
        ProphetFines x = Check.told("f10,7;v5;v10;w50;o0;");
        CHECK.due("none stands", x.premium(0, 0), Check.BAD);
        for (int n = 0; n < 12; n++) {
            x.say(0, SURE, 0, 0);
        }
        expectPremium("the first", x, 0, 37, 4);
        expectPremium("the last", x, 11, 15, 2);
        CHECK.due("no 12th", x.premium(12, 0), Check.BAD);
        x.year(0);
        CHECK.due("none stands then", x.premium(0, 0), Check.BAD);
        x.say(1, SURE, 0, 0);
        expectPremium("an oracle's only one", x, 0, 37, 4);
        x.say(1, NOT, 0, 0);
        expectPremium("one of his is never TRUE", x, 0, 0, 1);
        expectPremium("nor the other", x, 1, 0, 1);
    }

    private static void heededEdges() {
        CHECK.says("who of those that were RIGHT or WRONG once was RIGHT most of all his, of several the first; NONE");
        CHECK.due("no prophets", Check.told("f1,0;v1;").heeded(), Check.NONE);
        ProphetFines x = Check.told("f1,0;v10;w0;w0;w0;w0;i0;");
        CHECK.due("nobody was", x.heeded(), Check.NONE);
        x.year(0);
        CHECK.due("nobody yet", x.heeded(), Check.NONE);
        x.say(4, SURE, 0, 0);
        CHECK.due("a saying that stands does not count", x.heeded(), Check.NONE);
        x.year(0);
        CHECK.due("who was never RIGHT, the others having said nothing", x.heeded(), 4);
        x.say(3, SURE, 0, 0);
        x.year(0);
        CHECK.due("of two who were never RIGHT the first", x.heeded(), 3);
        x.say(4, NOT, 0, 0);
        x.year(0);
        CHECK.due("one of two", x.heeded(), 4);
        x.say(2, NOT, 0, 0);
        x.say(2, SURE, 0, 0);
        x.year(0);
        CHECK.due("one of two, the first", x.heeded(), 2);
        x.say(1, NOT, 0, 0);
        x.year(0);
        CHECK.due("all of one", x.heeded(), 1);
        for (int n = 0; n < 12; n++) {
            x.say(0, n < 11 ? NOT : SURE, 0, 0);
        }
        x.year(0);
        CHECK.due("eleven of twelve are less than one of one", x.heeded(), 1);
        x.undo();
        x.unsay();
        x.year(0);
        CHECK.due("eleven of eleven, the first", x.heeded(), 0);
    }

    private static void plainEdges() {
        CHECK.says("how many sets of EVENTS there are by which a PROPHET is neither fined nor gains");
        StringBuilder text = new StringBuilder("f1,0;");
        for (int many = 1; many <= 6; many++) {
            text.append("v16;");
            ProphetFines x = Check.told(text + "w0;w1;i50;o0;");
            CHECK.due("nothing said: all sets", x.plain(0), 1 << many);
            for (int p = 0; p < 4; p++) {
                x.say(p, SURE, 0, 0);
            }
            CHECK.due("a fine of 0, a HEED of 0", x.plain(0), 1 << many);
            CHECK.due("a fine of 0, a HEED of 1", x.plain(1), 1 << many - 1);
            CHECK.due("a fool", x.plain(2), 1 << many);
            x.chance(0, 10);
            CHECK.due("a fine of 2, a HEED of 0", x.plain(0), 1 << many - 1);
            x.say(3, NOT, 0, 0);
            CHECK.due("an oracle who is always spared", x.plain(3), 1 << many);
            x.say(0, NOT, 0, 0);
            CHECK.due("no set", x.plain(0), 0);
        }
        ProphetFines even = Check.told("f5,0;v10;w10;");
        even.say(0, SURE, 0, 0);
        CHECK.due("fined as much as he gains", even.plain(0), 1);
    }

    private static void imagesOf0And1() {
        CHECK.says("An IMAGE (0, 1) is kept of the REPUBLIC: 1. BAD; STATE: no REPUBLIC");
        ProphetFines x = new ProphetFines();
        CHECK.due("no republic", x.image(0), Check.STATE);
        CHECK.due("no republic", x.image(1), Check.STATE);
        CHECK.says("BAD; STATE: none was kept");
        CHECK.due("none was kept", x.restore(0), Check.STATE);
        CHECK.due("none was kept", x.restore(1), Check.STATE);
        Check.tell(x, "f1,0;v1;");
        CHECK.due("a republic is no image", x.restore(0), Check.STATE);
        for (int no : new int[] {MIN, -1, 2, MAX}) {
            CHECK.due("image(" + no + ")", x.image(no), Check.BAD);
            CHECK.due("restore(" + no + ")", x.restore(no), Check.BAD);
        }
        CHECK.due("image 1", x.image(1), 1);
        CHECK.due("image 0 was not kept", x.restore(0), Check.STATE);
        CHECK.due("image 1 was", x.restore(1), 1);
        Check.tell(x, "f1,0;v1;v1;");
        CHECK.due("image 0", x.image(0), 1);
        CHECK.due("image 1 again", x.restore(1), 1);
        CHECK.due("of one event", x.count(1), 1);
        CHECK.due("image 0 again", x.restore(0), 1);
        CHECK.due("of two", x.count(1), 2);
    }

    private static void expectAsKept(String name, ProphetFines x, int years, int chance, int form) {
        CHECK.due(name + ": YEARS", x.count(4), years);
        CHECK.due(name + ": PURSE", x.prophet(0, 0), years * (6 - 37));
        CHECK.due(name + ": RIGHT", x.prophet(0, 1), years);
        CHECK.due(name + ": WRONG", x.prophet(1, 2), years);
        CHECK.due(name + ": ODDS", x.odds(SURE, 1, 1), 20 * chance);
        CHECK.due(name + ": SAYINGS", x.count(3), 1);
        CHECK.due(name + ": FORM", x.saying(0, 1), form);
    }

    private static void sayAndLetComeAYear(ProphetFines x) {
        x.say(0, SURE, 0, 0);
        x.say(1, NOT, 0, 0);
        x.year(1);
    }

    private static void imagesStandApart() {
        CHECK.says("The REPUBLIC is as an IMAGE kept it [whatever comes behind it, and from the other one]");
        ProphetFines x = Check.told("f10,7;v5;v10;w6;w6;");
        sayAndLetComeAYear(x);
        x.chance(1, 11);
        x.say(0, NOT, 1, 1);
        x.image(0);
        x.undo();
        sayAndLetComeAYear(x);
        x.chance(1, 12);
        x.say(0, EITHER, 0, 1);
        x.image(1);
        for (int round = 0; round < 2; round++) {
            x.restore(0);
            expectAsKept("image 0", x, 1, 11, NOT);
            x.chance(1, 19);
            x.unsay();
            sayAndLetComeAYear(x);
            x.restore(1);
            expectAsKept("image 1", x, 2, 12, EITHER);
            x.unsay();
            x.say(1, BOTH, 0, 1);
            x.drawn(7);
            x.chance(0, 1);
        }
        x.restore(0);
        x.image(1);
        x.unsay();
        x.restore(1);
        expectAsKept("image 1, kept anew of image 0", x, 1, 11, NOT);
    }

    private static void imageIsOfTheRepublicAlone() {
        CHECK.says("An IMAGE (0, 1) is kept of the REPUBLIC");
        ProphetFines x = Check.told(Check.READER);
        Check.sayAllOfReader(x);
        Check.fill(x, 0, 3);
        x.image(0);
        Check.tell(x, "f0");
        Check.fill(x, 0, 4, 5);
        x.row(6, 0, 1);
        x.ask(0, 1);
        Check.feedAll(x, "f1,");
        x.set(6, 1, 0);
        CHECK.due("restored", x.restore(0), 1);
        CHECK.due("status() stays", x.status(), 2);
        CHECK.due("fault() stays", x.fault(), 2);
        CHECK.due("the trace stays", x.trace(0), 21);
        CHECK.due("the tape stays", x.feed('0'), 4);
        CHECK.due("rows stay", x.count(0), 2);
        CHECK.dueItems(x, "items stay", 0, 4, 5);
    }

    private static void restoreKeepsTheImage() {
        CHECK.says("The REPUBLIC is as an IMAGE kept it (no ACT can be undone then): 1");
        ProphetFines x = Check.told("f20,50;v1;v3;v5;v7;v9;v11;w50;l40;a30;o20;i10;");
        for (int n = 0; n < 12; n++) {
            x.say(n % 5, SURE, n % 6, n % 6);
        }
        x.year(21);
        x.chance(5, 19);
        for (int n = 0; n < 12; n++) {
            x.say(4 - n % 5, NOT, n % 6, n % 6);
        }
        x.image(0);
        int purse = x.prophet(0, 0);
        for (int round = 0; round < 2; round++) {
            Check.tell(x, "f1,0;v2;o7;");
            x.say(0, SURE, 0, 0);
            x.year(1);
            CHECK.due("an act of another republic", x.count(5), 2);
            CHECK.due("restored", x.restore(0), 1);
            CHECK.due("no ACT can be undone", x.undo(), Check.STATE);
            int[] due = {0, 6, 5, 12, 1, 0, 0};
            for (int what = 0; what < due.length; what++) {
                CHECK.due("count(" + what + ")", x.count(what), due[what]);
            }
            CHECK.due("PURSE", x.prophet(0, 0), purse);
            CHECK.due("RIGHT and WRONG", x.prophet(0, 1) + x.prophet(0, 2), 3);
            for (int p = 0; p < 5; p++) {
                CHECK.due("kind of " + p, x.kind(p), p + 1);
                CHECK.due("HEED of " + p, x.prophet(p, 3), 50 - 10 * p);
            }
            CHECK.due("chance of 4", x.odds(SURE, 4, 4), 180);
            CHECK.due("chance of 5", x.odds(SURE, 5, 5), 380);
            for (int s = 0; s < 12; s++) {
                CHECK.due("who said " + s, x.saying(s, 0), 4 - s % 5);
                CHECK.due("FORM of " + s, x.saying(s, 1), NOT);
                CHECK.due("e of " + s, x.saying(s, 2), s % 6);
            }
            CHECK.due("by the law", x.fine(4, 0), (400 - 20 * 11) * 20 / 100 + 50);
        }
    }
}
