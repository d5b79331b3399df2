import java.math.BigInteger;
import java.util.Arrays;

/** Part 2 and promises 9 to 19: each sentence that names an edge of EVENTS, PROPHETS, SAYINGS, ACTS and SEEDS. */
public final class SayingEdgesTest {
    private static final Check CHECK = new Check();
    private static final int SURE = 0, NOT = 1, BOTH = 2, EITHER = 3, ONE = 4;
    private static final int W = 0, L = 1, A = 2, O = 3, I = 4;
    private static final int MIN = Integer.MIN_VALUE, MAX = Integer.MAX_VALUE;
    /** Chances 5 and 10 of 20; FINES of a weatherman, FIRST aside: SURE 0 30, SURE 1 20, NOT 0 10, BOTH 35, EITHER 15. */
    private static final String ALL_KINDS = "f10,7;v5;v10;w6;l6;a6;o6;i6;";
    private static final String SIX = "f10,7;v1;v4;v8;v12;v16;v19;w6;";

    public static void main(String[] args) {
        wordings();
        farOffWordings();
        oddsOf400();
        oddsAtTheEdges();
        twelveStand();
        inTheOrderSaid();
        howManyOfHis();
        lastIsTakenBack();
        setsOfAYear();
        setsOfFineAndNet();
        trueByEachForm();
        fineIsCut();
        fineFromLeastToMost();
        firstOfItsWording();
        halfAndTwice();
        oracleIsSpared();
        foolPaysNothing();
        gains();
        netOfAll();
        yearComes();
        yearWithoutSayings();
        twentyFourActs();
        eachActIsUndone();
        latestFirst();
        undoneIsWhatWasSaid();
        undoneMakesRoom();
        whatIsNoAct();
        chanceFrom1To19();
        seedsFrom1To999999();
        drawsAtTheEdgeOfAChance();
        drawsInOrder();
        drawnYearIsAYear();
        upTo512Calls();
        yearsUpTo999();
        CHECK.end();
    }

    private static String eventsOf(int many) {
        StringBuilder text = new StringBuilder("f10,7;");
        for (int e = 0; e < many; e++) {
            text.append('v').append(3 * e + 2).append(';');
        }
        return text.append("w6;").toString();
    }

    private static void wordings() {
        CHECK.says("A WORDING is a FORM and two EVENTS e, f: .. f being e with both; .. e less than f");
        for (int many = 1; many <= 6; many++) {
            for (int form = -1; form <= 5; form++) {
                ProphetFines x = Check.told(eventsOf(many));
                for (int e = -1; e <= many; e++) {
                    for (int f = -1; f <= many; f++) {
                        boolean areEvents = e >= 0 && e < many && f >= 0 && f < many;
                        boolean isOne = areEvents && (form == SURE || form == NOT ? e == f : e < f);
                        boolean isWording = form >= SURE && form <= ONE && isOne;
                        String name = form + ", " + e + ", " + f + " of " + many + " events";
                        CHECK.due("odds of " + name + " are told", x.odds(form, e, f) != Check.BAD ? 1 : 0, isWording ? 1 : 0);
                        int before = x.count(3);
                        boolean hasRoom = before < 12;
                        CHECK.due("say " + name, x.say(0, form, e, f),
                                !isWording ? Check.BAD : hasRoom ? before + 1 : Check.FULL);
                    }
                }
            }
        }
    }

    private static void farOffWordings() {
        CHECK.says("BAD: no such WORDING, too");
        ProphetFines x = Check.told(SIX);
        for (int no : new int[] {MIN, -1, 5, MAX}) {
            CHECK.due("form " + no, x.say(0, no, 0, 1), Check.BAD);
            CHECK.due("form " + no, x.say(0, no, 0, 0), Check.BAD);
            CHECK.due("odds of form " + no, x.odds(no, 0, 1), Check.BAD);
        }
        for (int no : new int[] {MIN, -1, 6, MAX}) {
            for (int form = SURE; form <= ONE; form++) {
                CHECK.due("event " + no, x.say(0, form, no, no), Check.BAD);
                CHECK.due("e " + no, x.say(0, form, no, 5), Check.BAD);
                CHECK.due("f " + no, x.say(0, form, 0, no), Check.BAD);
                CHECK.due("odds of event " + no, x.odds(form, no, no), Check.BAD);
            }
        }
        CHECK.due("nothing was said", x.count(3), 0);
        CHECK.due("the last wording of all", x.say(0, ONE, 4, 5), 1);
        CHECK.due("the first of all", x.say(0, SURE, 0, 0), 2);
    }

    private static boolean isSo(int form, boolean e, boolean f) {
        switch (form) {
            case SURE: return e;
            case NOT: return !e;
            case BOTH: return e && f;
            case EITHER: return e || f;
            default: return e != f;
        }
    }

    private static void oddsOf400() {
        CHECK.says("ODDS of it are of 400, all EVENTS apart from one another");
        for (int c = 1; c <= 19; c++) {
            ProphetFines x = Check.told("f1,0;v" + c + ";v1;");
            for (int d = 1; d <= 19; d++) {
                x.chance(1, d);
                for (int form = SURE; form <= ONE; form++) {
                    int odds = 0;
                    for (int k = 0; k < 400; k++) {
                        odds += isSo(form, k / 20 < c, k % 20 < d) ? 1 : 0;
                    }
                    int f = form == SURE || form == NOT ? 0 : 1;
                    CHECK.due("form " + form + " by " + c + " and " + d, x.odds(form, 0, f), odds);
                }
            }
        }
    }

    private static void oddsAtTheEdges() {
        CHECK.says("ODDS of a WORDING. BAD [the least and the most]");
        ProphetFines x = Check.told("f1,0;v1;v1;v19;v19;");
        CHECK.due("BOTH of 1 and 1", x.odds(BOTH, 0, 1), 1);
        CHECK.due("EITHER of 1 and 1", x.odds(EITHER, 0, 1), 39);
        CHECK.due("ONE of 1 and 1", x.odds(ONE, 0, 1), 38);
        CHECK.due("BOTH of 19 and 19", x.odds(BOTH, 2, 3), 361);
        CHECK.due("EITHER of 19 and 19", x.odds(EITHER, 2, 3), 399);
        CHECK.due("ONE of 19 and 19", x.odds(ONE, 2, 3), 38);
        CHECK.due("ONE of 1 and 19", x.odds(ONE, 0, 2), 362);
        CHECK.due("SURE of 1", x.odds(SURE, 0, 0), 20);
        CHECK.due("NOT of 1", x.odds(NOT, 0, 0), 380);
        CHECK.due("no republic", new ProphetFines().odds(SURE, 0, 0), Check.BAD);
    }

    private static void twelveStand() {
        CHECK.says("12 at most stand");
        ProphetFines x = Check.told(ALL_KINDS);
        for (int n = 1; n <= 12; n++) {
            CHECK.due("saying number " + n, x.say(n % 5, SURE, n % 2, n % 2), n);
        }
        CHECK.due("the 13th", x.say(W, SURE, 0, 0), Check.FULL);
        CHECK.due("the 13th, of another wording", x.say(O, ONE, 0, 1), Check.FULL);
        CHECK.due("twelve", x.count(3), 12);
        CHECK.due("the last of them", x.saying(11, 0), 12 % 5);
        CHECK.due("taken back", x.unsay(), 11);
        CHECK.due("the 12th again", x.say(L, BOTH, 0, 1), 12);
        CHECK.due("full again", x.say(L, BOTH, 0, 1), Check.FULL);
        x.year(0);
        CHECK.due("room in a new year", x.say(L, BOTH, 0, 1), 1);
        x.undo();
        x.undo();
        CHECK.due("full, the year undone", x.say(L, BOTH, 0, 1), Check.FULL);
    }

    private static void inTheOrderSaid() {
        CHECK.says("in the order said");
        ProphetFines x = Check.told(SIX + "l6;a6;o6;i6;");
        int[][] said = {{4, ONE, 4, 5}, {0, SURE, 5, 5}, {3, NOT, 0, 0}, {1, EITHER, 0, 5}, {2, BOTH, 1, 2}, {0, SURE, 5, 5}};
        for (int[] s : said) {
            x.say(s[0], s[1], s[2], s[3]);
        }
        for (int s = 0; s < said.length; s++) {
            for (int what = 0; what < 4; what++) {
                CHECK.due("saying(" + s + ", " + what + ")", x.saying(s, what), said[s][what]);
            }
            CHECK.due("whether " + s + " is the first", x.saying(s, 4), s == 5 ? 0 : 1);
        }
    }

    private static void howManyOfHis() {
        CHECK.says("4 how many SAYINGS of his stand");
        ProphetFines x = Check.told(ALL_KINDS);
        for (int n = 1; n <= 12; n++) {
            x.say(n <= 6 ? W : I, SURE, 0, 0);
            CHECK.due("of the first prophet", x.prophet(W, 4), Math.min(n, 6));
            CHECK.due("of the last", x.prophet(I, 4), Math.max(n - 6, 0));
            CHECK.due("of another", x.prophet(L, 4), 0);
        }
        x.unsay();
        CHECK.due("one was taken back", x.prophet(I, 4), 5);
        x.year(0);
        CHECK.due("none behind a year", x.prophet(W, 4), 0);
        for (int n = 1; n <= 12; n++) {
            x.say(O, SURE, 0, 0);
        }
        CHECK.due("all twelve", x.prophet(O, 4), 12);
    }

    private static void lastIsTakenBack() {
        CHECK.says("The last SAYING is taken back: how many stand. STATE: none");
        ProphetFines x = Check.told(ALL_KINDS);
        CHECK.due("none", x.unsay(), Check.STATE);
        for (int n = 0; n < 12; n++) {
            x.say(n % 5, SURE, n % 2, n % 2);
        }
        for (int left = 11; left >= 0; left--) {
            CHECK.due("unsay", x.unsay(), left);
            CHECK.due("it does not stand", x.saying(left, 0), Check.BAD);
            if (left > 0) {
                CHECK.due("the one ahead does", x.saying(left - 1, 0), (left - 1) % 5);
            }
        }
        CHECK.due("none again", x.unsay(), Check.STATE);
        x.say(W, SURE, 0, 0);
        x.year(0);
        CHECK.due("none behind a year", x.unsay(), Check.STATE);
    }

    private static void setsOfAYear() {
        CHECK.says("A YEAR of a set of EVENTS (bits): .. BAD");
        for (int many = 1; many <= 6; many++) {
            ProphetFines x = Check.told(eventsOf(many));
            for (int no : new int[] {MIN, -1, 1 << many, (1 << many) + 1, MAX}) {
                CHECK.due("year(" + no + ") of " + many, x.year(no), Check.BAD);
            }
            CHECK.due("no year was gone", x.count(4), 0);
            CHECK.due("the least set", x.year(0), 0);
            CHECK.due("the most", x.year((1 << many) - 1), 0);
            CHECK.due("two years", x.count(4), 2);
        }
    }

    private static void setsOfFineAndNet() {
        CHECK.says("if a set of EVENTS comes .. BAD");
        for (int many = 1; many <= 6; many++) {
            ProphetFines x = Check.told(eventsOf(many));
            x.say(0, SURE, many - 1, many - 1);
            for (int no : new int[] {MIN, -1, 1 << many, MAX}) {
                CHECK.due("fine by " + no + " of " + many, x.fine(0, no), Check.BAD);
                CHECK.due("net by " + no + " of " + many, x.net(0, no), Check.BAD);
            }
            int fine = (400 - 20 * (3 * many - 1)) * 10 / 100 + 7;
            for (int set = 0; set < 1 << many; set++) {
                boolean comes = set >= 1 << (many - 1);
                CHECK.due("fine by " + set, x.fine(0, set), comes ? fine : 0);
                CHECK.due("net by " + set, x.net(0, set), comes ? 6 - fine : 0);
            }
            CHECK.due("no saying 1", x.fine(1, 0), Check.BAD);
            CHECK.due("no saying -1", x.fine(-1, 0), Check.BAD);
        }
    }

    /** An almanac with a FIRST of 50 is fined whenever his SAYING is TRUE. */
    private static void trueByEachForm() {
        CHECK.says("a SAYING by which that is so is TRUE");
        for (int form = SURE; form <= ONE; form++) {
            for (int e = 0; e < 6; e++) {
                for (int f = form < BOTH ? e : e + 1; f < (form < BOTH ? e + 1 : 6); f++) {
                    ProphetFines x = Check.told("f20,50;v1;v3;v7;v9;v13;v17;a0;");
                    x.say(0, form, e, f);
                    for (int set = 0; set < 64; set++) {
                        boolean isTrue = isSo(form, (set >> e & 1) == 1, (set >> f & 1) == 1);
                        CHECK.due("form " + form + " of " + e + ", " + f + " by " + set,
                                x.fine(0, set) > 0 ? 1 : 0, isTrue ? 1 : 0);
                    }
                    CHECK.due("all of them", x.year(63), isSo(form, true, true) ? 1 : 0);
                }
            }
        }
    }

    private static void fineIsCut() {
        CHECK.says("400 less its ODDS, times RATE, by 100 (cut)");
        int[][] rateChanceAndDue = {{1, 1, 3}, {1, 5, 3}, {1, 6, 2}, {1, 15, 1}, {1, 16, 0}, {1, 19, 0}, {5, 19, 1},
            {4, 19, 0}, {20, 19, 4}, {20, 1, 76}, {7, 4, 22}, {13, 13, 18}, {19, 19, 3}};
        for (int[] r : rateChanceAndDue) {
            ProphetFines x = Check.told("f" + r[0] + ",0;v" + r[1] + ";w0;");
            x.say(0, SURE, 0, 0);
            CHECK.due("rate " + r[0] + ", chance " + r[1], x.fine(0, 1), r[2]);
            CHECK.due("not TRUE", x.fine(0, 0), 0);
        }
    }

    private static void fineFromLeastToMost() {
        CHECK.says("FINE of a TRUE one [the least and the most]");
        ProphetFines least = Check.told("f20,0;v19;v19;w0;l0;a0;");
        ProphetFines most = Check.told("f20,50;v1;v1;w0;l0;a0;");
        int[] dueOfMost = {79 + 50, (79 + 50) / 2, 2 * (79 + 50)};
        for (int p = W; p <= A; p++) {
            least.say(p, EITHER, 0, 1);
            most.say(p, BOTH, 0, 1);
            CHECK.due("1 times 20 by 100", least.fine(0, 3), 0);
            CHECK.due("399 times 20 by 100, and 50", most.fine(0, 3), dueOfMost[p]);
            least.unsay();
            most.unsay();
        }
    }

    private static void firstOfItsWording() {
        CHECK.says("FIRST more, if none ahead of it has the same WORDING");
        ProphetFines x = Check.told("f10,7;v5;v5;w6;w6;");
        x.say(0, SURE, 0, 0);
        x.say(1, SURE, 0, 0);
        x.say(0, SURE, 0, 0);
        x.say(1, SURE, 1, 1);
        x.say(0, NOT, 0, 0);
        x.say(0, BOTH, 0, 1);
        x.say(0, EITHER, 0, 1);
        x.say(0, BOTH, 0, 1);
        CHECK.due("the first", x.fine(0, 3), 37);
        CHECK.due("another prophet's second", x.fine(1, 3), 30);
        CHECK.due("his own third", x.fine(2, 3), 30);
        CHECK.due("the same form of another event", x.fine(3, 3), 37);
        CHECK.due("another form of the same event", x.fine(4, 0), 10 + 7);
        CHECK.due("BOTH", x.fine(5, 3), 37 + 7);
        CHECK.due("EITHER of the same two", x.fine(6, 3), 22 + 7);
        CHECK.due("BOTH again", x.fine(7, 3), 37);
        CHECK.says("whether it is the first of its WORDING (1, 0)");
        int[] isFirst = {1, 0, 0, 1, 1, 1, 1, 0};
        for (int s = 0; s < isFirst.length; s++) {
            CHECK.due("saying " + s, x.saying(s, 4), isFirst[s]);
        }
        CHECK.says("FIRST more, if none ahead of it has the same WORDING [taken back; in another YEAR]");
        while (x.count(3) > 0) {
            x.unsay();
        }
        x.say(1, SURE, 0, 0);
        CHECK.due("those ahead were taken back", x.fine(0, 3), 37);
        x.year(0);
        x.say(1, SURE, 0, 0);
        CHECK.due("it was said in another year", x.fine(0, 3), 37);
    }

    private static void halfAndTwice() {
        CHECK.says("of a lover half of that (cut), of an almanac twice");
        ProphetFines x = Check.told(ALL_KINDS);
        x.say(L, SURE, 0, 0);
        x.say(A, SURE, 0, 0);
        x.say(L, SURE, 0, 0);
        x.say(A, BOTH, 0, 1);
        x.say(L, BOTH, 0, 1);
        CHECK.due("half of 37", x.fine(0, 3), 18);
        CHECK.due("twice 30", x.fine(1, 3), 60);
        CHECK.due("half of 30", x.fine(2, 3), 15);
        CHECK.due("twice 42", x.fine(3, 3), 84);
        CHECK.due("half of 35", x.fine(4, 3), 17);
        ProphetFines one = Check.told("f1,1;v16;l0;a0;");
        one.say(0, SURE, 0, 0);
        one.say(1, SURE, 0, 0);
        CHECK.due("half of 1", one.fine(0, 1), 0);
        CHECK.due("twice 0", one.fine(1, 1), 0);
    }

    private static void oracleIsSpared() {
        CHECK.says("of an oracle 0, if another one of his own SAYINGS is not TRUE");
        ProphetFines x = Check.told("f10,7;v5;v10;o6;o6;w6;");
        x.say(0, SURE, 0, 0);
        CHECK.due("his only one", x.fine(0, 1), 37);
        x.say(1, SURE, 1, 1);
        x.say(2, SURE, 1, 1);
        CHECK.due("others' do not spare him", x.fine(0, 1), 37);
        x.say(0, SURE, 0, 0);
        CHECK.due("another of his that is TRUE, too", x.fine(0, 1), 37);
        CHECK.due("that one", x.fine(3, 1), 30);
        x.say(0, BOTH, 0, 1);
        CHECK.due("one behind it is not TRUE", x.fine(0, 1), 0);
        CHECK.due("all are TRUE", x.fine(0, 3), 37);
        CHECK.due("the last one, all being TRUE", x.fine(4, 3), 42);
        x.say(0, NOT, 0, 0);
        CHECK.due("never all", x.fine(4, 3), 0);
        CHECK.due("one ahead of it is not TRUE", x.fine(5, 0), 0);
        CHECK.due("the other oracle", x.fine(1, 2), 27);
        CHECK.due("a weatherman is not spared", x.fine(2, 2), 20);
    }

    private static void foolPaysNothing() {
        CHECK.says("of a fool 0");
        ProphetFines x = Check.told("f20,50;v1;v1;i50;w0;");
        x.say(0, BOTH, 0, 1);
        x.say(0, NOT, 0, 0);
        x.say(1, BOTH, 0, 1);
        for (int set = 0; set < 4; set++) {
            CHECK.due("fine by " + set, x.fine(0, set), 0);
            CHECK.due("fine by " + set, x.fine(1, set), 0);
            CHECK.due("net by " + set, x.net(0, set), 0);
        }
        CHECK.due("a fool's is ahead of it, so no FIRST", x.fine(2, 3), 79);
    }

    private static void gains() {
        CHECK.says("GAIN of a TRUE one: HEED of who said it; of a fool 0");
        ProphetFines x = Check.told("f1,0;v19;v10;w50;w0;o50;i50;");
        for (int p = 0; p < 4; p++) {
            x.say(p, SURE, 0, 0);
            x.say(p, SURE, 1, 1);
        }
        int[][] due = {{0, 50, 48, 98}, {0, 0, -2, -2}, {0, 50, 50, 98}, {0, 0, 0, 0}};
        for (int p = 0; p < 4; p++) {
            for (int set = 0; set < 4; set++) {
                CHECK.due("net of " + p + " by " + set, x.net(p, set), due[p][set]);
            }
        }
    }

    private static void netOfAll() {
        CHECK.says("NET of a PROPHET: GAINS less FINES of all his SAYINGS");
        ProphetFines x = Check.told("f20,50;v1;v1;a0;w50;w0;");
        CHECK.due("none of his", x.net(2, 3), 0);
        for (int n = 0; n < 12; n++) {
            x.say(0, BOTH, 0, 1);
        }
        CHECK.due("the most that can be", x.net(0, 3), -(12 * 2 * 79 + 2 * 50));
        CHECK.due("none is TRUE", x.net(0, 1), 0);
        CHECK.due("another", x.net(1, 3), 0);
        x.year(3);
        x.chance(0, 19);
        for (int n = 0; n < 12; n++) {
            x.say(1, SURE, 0, 0);
        }
        CHECK.due("a gain", x.net(1, 1), 12 * 50 - (12 * 4 + 50));
    }

    private static void yearComes() {
        CHECK.says("a YEAR comes: PURSE of each is more by NET, RIGHT of each by how many of his are TRUE, WRONG by how many are not");
        for (int set = 0; set < 4; set++) {
            ProphetFines x = Check.told(ALL_KINDS);
            int[] purses = new int[5];
            int[] rights = new int[5];
            int[] wrongs = new int[5];
            for (int year = 1; year <= 3; year++) {
                int allTrue = 0;
                for (int p = W; p <= I; p++) {
                    for (int form = NOT; form <= BOTH; form++) {
                        boolean isTrue = isSo(form, (set & 1) == 1, set >> 1 == 1);
                        x.say(p, form, 0, form - 1);
                        rights[p] += isTrue ? 1 : 0;
                        wrongs[p] += isTrue ? 0 : 1;
                        allTrue += isTrue ? 1 : 0;
                    }
                }
                for (int p = W; p <= I; p++) {
                    purses[p] += x.net(p, set);
                }
                CHECK.due("how many SAYINGS were TRUE", x.year(set), allTrue);
                for (int p = W; p <= I; p++) {
                    CHECK.due("PURSE", x.prophet(p, 0), purses[p]);
                    CHECK.due("RIGHT", x.prophet(p, 1), rights[p]);
                    CHECK.due("WRONG", x.prophet(p, 2), wrongs[p]);
                    CHECK.due("his that stand", x.prophet(p, 4), 0);
                }
                CHECK.due("no SAYINGS stand then", x.count(3), 0);
                CHECK.due("YEARS gone", x.count(4), year);
            }
        }
    }

    private static void yearWithoutSayings() {
        CHECK.says("how many SAYINGS were TRUE [none stand]");
        ProphetFines x = Check.told("f10,7;v5;");
        CHECK.due("no prophets", x.year(1), 0);
        CHECK.due("one year", x.count(4), 1);
        CHECK.due("it can be undone", x.undo(), 0);
        CHECK.due("none", x.count(4), 0);
        ProphetFines y = Check.told(ALL_KINDS);
        CHECK.due("nothing said", y.year(3), 0);
        for (int what = 0; what < 3; what++) {
            CHECK.due("prophet(0, " + what + ")", y.prophet(0, what), 0);
        }
        CHECK.due("nobody was right or wrong", y.heeded(), Check.NONE);
    }

    private static void twentyFourActs() {
        CHECK.says("ACTS (24 at most are kept, of more the oldest is forgotten");
        for (int many : new int[] {1, 23, 24, 25, 26, 47, 48, 49, 60}) {
            ProphetFines x = Check.told("f1,0;v1;v1;w0;");
            for (int n = 1; n <= many; n++) {
                x.year(n % 4);
                CHECK.due("kept of " + n, x.count(5), Math.min(n, 24));
            }
            int kept = Math.min(many, 24);
            for (int left = kept - 1; left >= 0; left--) {
                CHECK.due("undone of " + many, x.undo(), left);
                CHECK.due("years gone", x.count(4), many - kept + left);
            }
            CHECK.due("the rest is forgotten", x.undo(), Check.STATE);
            CHECK.due("years that cannot be undone", x.count(4), many - kept);
        }
    }

    private static void eachActIsUndone() {
        CHECK.says("a SAYING is said; the last one is taken back; a CHANCE is another one; a YEAR comes");
        ProphetFines x = Check.told(ALL_KINDS);
        x.say(W, SURE, 0, 0);
        CHECK.due("said", x.count(5), 1);
        x.unsay();
        CHECK.due("taken back", x.count(5), 2);
        x.chance(0, 6);
        CHECK.due("a chance", x.count(5), 3);
        x.year(0);
        CHECK.due("a year", x.count(5), 4);
        x.drawn(1);
        CHECK.due("a drawn year", x.count(5), 5);
        for (int left = 4; left >= 0; left--) {
            CHECK.due("The latest ACT is undone: how many can be undone yet", x.undo(), left);
        }
        CHECK.due("STATE: none", x.undo(), Check.STATE);
        CHECK.due("the chance is as it was", x.odds(SURE, 0, 0), 100);
        CHECK.due("nothing is said", x.count(3), 0);
        CHECK.due("no year is gone", x.count(4), 0);
    }

    private static void latestFirst() {
        CHECK.says("each can be undone, the latest first");
        ProphetFines x = Check.told(ALL_KINDS);
        for (int c = 1; c <= 19; c++) {
            x.chance(0, c);
        }
        for (int c = 18; c >= 1; c--) {
            x.undo();
            CHECK.due("the chance before", x.odds(SURE, 0, 0), 20 * c);
        }
        x.undo();
        CHECK.due("as told", x.odds(SURE, 0, 0), 100);
    }

    private static void undoneIsWhatWasSaid() {
        CHECK.says("each can be undone, the latest first [another SAYING having come in its place]");
        ProphetFines x = Check.told(ALL_KINDS);
        x.say(L, BOTH, 0, 1);
        x.unsay();
        x.say(A, NOT, 1, 1);
        x.year(0);
        x.say(O, SURE, 0, 0);
        int[][] due = {{A, NOT, 1, 1}, {}, {L, BOTH, 0, 1}};
        x.undo();
        for (int[] d : due) {
            x.undo();
            CHECK.due("how many stand", x.count(3), d.length / 4);
            for (int what = 0; what < d.length; what++) {
                CHECK.due("what " + what + " of it", x.saying(0, what), d[what]);
            }
        }
    }

    private static void undoneMakesRoom() {
        CHECK.says("24 at most are kept [some of them undone]");
        ProphetFines x = Check.told("f1,0;v1;v1;w0;");
        for (int n = 0; n < 30; n++) {
            x.year(0);
        }
        for (int n = 0; n < 5; n++) {
            x.undo();
        }
        CHECK.due("19 are left", x.count(5), 19);
        for (int n = 1; n <= 5; n++) {
            x.chance(0, n + 1);
            CHECK.due("kept", x.count(5), 19 + n);
        }
        x.chance(0, 7);
        CHECK.due("no more", x.count(5), 24);
        for (int n = 6; n >= 1; n--) {
            x.undo();
            CHECK.due("chance", x.odds(SURE, 0, 0), 20 * n);
            CHECK.due("years", x.count(4), 25);
        }
        for (int left = 17; left >= 0; left--) {
            CHECK.due("years undone", x.undo(), left);
        }
        CHECK.due("seven cannot be", x.count(4), 7);
        CHECK.due("none is left", x.undo(), Check.STATE);
    }

    private static void whatIsNoAct() {
        CHECK.says("What is refused, or found, changes nothing [no ACT of it is kept]");
        ProphetFines x = Check.told(ALL_KINDS);
        x.say(5, SURE, 0, 0);
        x.say(W, SURE, 0, 1);
        x.unsay();
        x.chance(0, 0);
        x.chance(2, 5);
        x.year(4);
        x.drawn(0);
        x.undo();
        x.image(0);
        x.row(0, 0, 5);
        x.feed('f');
        x.ask(0, 0);
        CHECK.due("none of these is an ACT", x.count(5), 0);
        for (int n = 0; n < 12; n++) {
            x.say(W, SURE, 0, 0);
        }
        x.say(W, SURE, 0, 0);
        CHECK.due("the 13th saying is none", x.count(5), 12);
        CHECK.due("nothing comes of it", x.undo(), 11);
        CHECK.due("the 12th is undone", x.count(3), 11);
    }

    private static void chanceFrom1To19() {
        CHECK.says("CHANCE of an EVENT (1 to 19): what it was. BAD");
        ProphetFines x = Check.told(SIX);
        int[] told = {1, 4, 8, 12, 16, 19};
        for (int e = 0; e < 6; e++) {
            CHECK.due("what " + e + " was", x.chance(e, 19), told[e]);
            CHECK.due("19 of 20", x.odds(SURE, e, e), 380);
            CHECK.due("it was 19", x.chance(e, 1), 19);
            CHECK.due("1 of 20", x.odds(SURE, e, e), 20);
        }
        for (int no : new int[] {MIN, -1, 0, 20, 21, MAX}) {
            CHECK.due("chance " + no, x.chance(0, no), Check.BAD);
        }
        for (int no : new int[] {MIN, -1, 6, MAX}) {
            CHECK.due("event " + no, x.chance(no, 5), Check.BAD);
        }
        CHECK.due("it was 1", x.chance(5, 7), 1);
        CHECK.due("event 1 of one", Check.told("f1,0;v1;").chance(1, 5), Check.BAD);
        CHECK.due("no republic", new ProphetFines().chance(0, 5), Check.BAD);
    }

    private static void seedsFrom1To999999() {
        CHECK.says("A YEAR by a SEED (1 to 999999): the set of EVENTS. BAD");
        ProphetFines x = Check.told(SIX);
        for (int no : new int[] {MIN, -1, 0, 1000000, 1000001, 2147483646, MAX}) {
            CHECK.due("drawn(" + no + ")", x.drawn(no), Check.BAD);
        }
        CHECK.due("no year was gone", x.count(4), 0);
        CHECK.due("no act", x.count(5), 0);
        for (int seed : new int[] {1, 2, 127773, 127774, 500000, 999998, 999999}) {
            CHECK.due("drawn(" + seed + ")", x.drawn(seed), drawnByHand(seed, 1, 4, 8, 12, 16, 19));
        }
        CHECK.due("seven years", x.count(4), 7);
    }

    private static int[] rests(int seed, int many) {
        BigInteger x = BigInteger.valueOf(seed);
        int[] rests = new int[many];
        for (int e = 0; e < many; e++) {
            x = x.multiply(BigInteger.valueOf(16807)).mod(BigInteger.valueOf(2147483647));
            rests[e] = x.mod(BigInteger.valueOf(20)).intValue();
        }
        return rests;
    }

    private static int drawnByHand(int seed, int... chances) {
        int[] rests = rests(seed, chances.length);
        int set = 0;
        for (int e = 0; e < chances.length; e++) {
            set |= rests[e] < chances[e] ? 1 << e : 0;
        }
        return set;
    }

    private static void drawsAtTheEdgeOfAChance() {
        CHECK.says("it comes, if the rest of that by 20 is less than its CHANCE");
        boolean[] seen = new boolean[20];
        for (int seed = 1; seed <= 60; seed++) {
            int rest = rests(seed, 1)[0];
            seen[rest] = true;
            ProphetFines x = Check.told("f1,0;v1;");
            if (rest >= 1) {
                x.chance(0, rest);
                CHECK.due("seed " + seed + ", chance " + rest, x.drawn(seed), 0);
            }
            if (rest + 1 <= 19) {
                x.chance(0, rest + 1);
                CHECK.due("seed " + seed + ", chance " + (rest + 1), x.drawn(seed), 1);
            }
        }
        CHECK.holds("there is a rest of 0", seen[0]);
        CHECK.holds("there is a rest of 18", seen[18]);
        CHECK.holds("there is a rest of 19", seen[19]);
    }

    private static void drawsInOrder() {
        CHECK.says("for each EVENT, in order, X becomes the rest of (X times 16807) by 2147483647");
        int[] chances = {10, 7, 13, 5, 15, 10};
        StringBuilder text = new StringBuilder("f1,0;");
        for (int many = 1; many <= 6; many++) {
            text.append('v').append(chances[many - 1]).append(';');
            ProphetFines x = Check.told(text.toString());
            for (int k = 0; k < 99; k++) {
                int seed = 1 + k * 10101;
                CHECK.due("seed " + seed + " of " + many + " events", x.drawn(seed),
                        drawnByHand(seed, Arrays.copyOf(chances, many)));
            }
        }
    }

    private static void drawnYearIsAYear() {
        CHECK.says("a YEAR comes [by a SEED as by told EVENTS]");
        for (int seed = 1; seed <= 20; seed++) {
            ProphetFines drawn = Check.told(ALL_KINDS);
            ProphetFines told = Check.told(ALL_KINDS);
            for (ProphetFines x : new ProphetFines[] {drawn, told}) {
                for (int p = W; p <= I; p++) {
                    x.say(p, SURE, 0, 0);
                    x.say(p, NOT, 1, 1);
                }
            }
            told.year(drawn.drawn(seed));
            for (int p = W; p <= I; p++) {
                for (int what = 0; what < 5; what++) {
                    CHECK.due("prophet(" + p + ", " + what + ")", drawn.prophet(p, what), told.prophet(p, what));
                }
            }
            for (int what = 3; what < 6; what++) {
                CHECK.due("count(" + what + ")", drawn.count(what), told.count(what));
            }
        }
    }

    /** A text, 37 years of 13 calls, and questions up to the last call that is promised. */
    private static void upTo512Calls() {
        CHECK.says("An object is used for at most 512 calls after it has been made");
        ProphetFines x = Check.told("f20,50;v01;v1;a00;");
        int calls = "f20,50;v01;v1;a00;".length() + 1;
        for (int year = 1; year <= 37; year++) {
            for (int n = 1; n <= 12; n++) {
                CHECK.due("saying " + n + " of year " + year, x.say(0, BOTH, 0, 1), n);
            }
            CHECK.due("all are TRUE in year " + year, x.year(3), 12);
            calls += 13;
        }
        for (; calls < 509; calls++) {
            CHECK.due("RIGHT", x.prophet(0, 1), 37 * 12);
        }
        CHECK.due("call 510: PURSE", x.prophet(0, 0), -37 * (12 * 2 * 79 + 2 * 50));
        CHECK.due("call 511: YEARS gone", x.count(4), 37);
        CHECK.due("call 512: ACTS", x.undo(), 23);
    }

    /** Beyond the 512 calls of which the document speaks; but the bound is told, so it is kept. */
    private static void yearsUpTo999() {
        CHECK.says("FULL: 999 are gone");
        for (boolean byDraw : new boolean[] {false, true}) {
            ProphetFines x = Check.told("f1,0;v7;v10;w0;");
            for (int n = 1; n < 999; n++) {
                x.year(0);
            }
            x.say(0, SURE, 0, 0);
            CHECK.due("the 999th", byDraw ? x.drawn(1) : x.year(2), byDraw ? 2 : 0);
            x.say(0, SURE, 0, 0);
            CHECK.due("the 1000th", x.year(0), Check.FULL);
            CHECK.due("the 1000th, drawn", x.drawn(1), Check.FULL);
            CHECK.due("999 are gone", x.count(4), 999);
            CHECK.due("what was said stands", x.count(3), 1);
            x.undo();
            x.undo();
            CHECK.due("one is undone", x.count(4), 998);
            CHECK.due("so one can come", x.year(0), 0);
        }
    }
}
