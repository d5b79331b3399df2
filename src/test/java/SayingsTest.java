/** Promises 9 to 19: what is said, taken back, comes and is undone; odds, fines and nets. */
public final class SayingsTest {
    private static final Check CHECK = new Check();
    private static final int SURE = 0, NOT = 1, BOTH = 2, EITHER = 3, ONE = 4;
    private static final int W = 0, L = 1, A = 2, O = 3, I = 4;
    /** Chances 5 and 10 of 20; FINES of a weatherman, FIRST aside: SURE 0 30, NOT 0 10, BOTH 35, EITHER 15, ONE 20. */
    private static final String ALL_KINDS = "f10,7;v5;v10;w6;l6;a6;o6;i6;";

    public static void main(String[] args) {
        undoOfEach();
        undoOfMany();
        say();
        unsay();
        chance();
        year();
        drawn();
        yearsAreFull();
        prophet();
        saying();
        odds();
        fineByKind();
        fineOfOracle();
        fineCut();
        net();
        CHECK.end();
    }

    private static void undoOfEach() {
        ProphetFines x = Check.told(ALL_KINDS);
        CHECK.due("none", x.undo(), Check.STATE);
        CHECK.due("none without a republic", new ProphetFines().undo(), Check.STATE);
        x.say(W, SURE, 0, 0);
        x.say(L, BOTH, 0, 1);
        x.unsay();
        x.chance(0, 19);
        x.year(1);
        x.say(O, ONE, 0, 1);
        x.drawn(1);
        CHECK.due("seven acts", x.count(5), 7);
        CHECK.due("two years", x.count(4), 2);

        CHECK.due("the drawn year", x.undo(), 6);
        CHECK.due("one year", x.count(4), 1);
        CHECK.due("its saying stands", x.saying(0, 1), ONE);
        CHECK.due("nobody was right in it", x.prophet(O, 1) + x.prophet(O, 2), 0);
        CHECK.due("the saying", x.undo(), 5);
        CHECK.due("none stand", x.count(3), 0);
        CHECK.due("the purse after the year", x.prophet(W, 0), 6 - (2 + 7));
        CHECK.due("the told year", x.undo(), 4);
        CHECK.due("year 0", x.count(4), 0);
        CHECK.due("purse 0", x.prophet(W, 0), 0);
        CHECK.due("right 0", x.prophet(W, 1), 0);
        CHECK.due("its saying stands", x.count(3), 1);
        CHECK.due("chance 19", x.odds(SURE, 0, 0), 380);
        CHECK.due("the chance", x.undo(), 3);
        CHECK.due("chance 5", x.odds(SURE, 0, 0), 100);
        CHECK.due("the taking back", x.undo(), 2);
        CHECK.due("two stand", x.count(3), 2);
        CHECK.due("said by", x.saying(1, 0), L);
        CHECK.due("its form", x.saying(1, 1), BOTH);
        CHECK.due("its f", x.saying(1, 3), 1);
        CHECK.due("the second saying", x.undo(), 1);
        CHECK.due("one stands", x.count(3), 1);
        CHECK.due("the first saying", x.undo(), 0);
        CHECK.due("none stand", x.count(3), 0);
        CHECK.due("none is left", x.undo(), Check.STATE);
    }

    private static void undoOfMany() {
        ProphetFines x = Check.told(ALL_KINDS);
        for (int i = 1; i <= 19; i++) {
            x.chance(0, i);
            CHECK.due("acts", x.count(5), i);
        }
        for (int i = 1; i <= 11; i++) {
            x.chance(1, i);
            CHECK.due("24 are kept", x.count(5), Math.min(24, 19 + i));
        }
        CHECK.due("what is refused is no act", x.chance(0, 20), Check.BAD);
        for (int left = 23; left >= 0; left--) {
            CHECK.due("undone", x.undo(), left);
        }
        CHECK.due("the oldest six are forgotten", x.undo(), Check.STATE);
        CHECK.due("so chance 6 is left", x.odds(SURE, 0, 0), 120);
        CHECK.due("and chance 10", x.odds(SURE, 1, 1), 200);
        x.say(W, SURE, 0, 0);
        CHECK.due("acts after that", x.count(5), 1);
        CHECK.due("undone", x.undo(), 0);
    }

    private static void say() {
        ProphetFines x = Check.told(ALL_KINDS);
        CHECK.due("prophet -1", x.say(-1, SURE, 0, 0), Check.BAD);
        CHECK.due("prophet 5", x.say(5, SURE, 0, 0), Check.BAD);
        CHECK.due("form -1", x.say(W, -1, 0, 0), Check.BAD);
        CHECK.due("form 5", x.say(W, 5, 0, 1), Check.BAD);
        CHECK.due("event -1", x.say(W, SURE, -1, -1), Check.BAD);
        CHECK.due("event 2", x.say(W, SURE, 2, 2), Check.BAD);
        CHECK.due("f beyond", x.say(W, BOTH, 0, 2), Check.BAD);
        CHECK.due("f is not e", x.say(W, SURE, 0, 1), Check.BAD);
        CHECK.due("f is not e", x.say(W, NOT, 1, 0), Check.BAD);
        for (int form = BOTH; form <= ONE; form++) {
            CHECK.due("e is f", x.say(W, form, 1, 1), Check.BAD);
            CHECK.due("e is more than f", x.say(W, form, 1, 0), Check.BAD);
        }
        CHECK.due("what is refused is no act", x.count(5), 0);
        for (int i = 1; i <= 12; i++) {
            CHECK.due("saying", x.say(i % 5, i % 2, i % 2, i % 2), i);
        }
        CHECK.due("the 13th", x.say(W, SURE, 0, 0), Check.FULL);
        CHECK.due("BAD goes ahead of FULL", x.say(5, SURE, 0, 0), Check.BAD);
        CHECK.due("twelve stand", x.count(3), 12);
        CHECK.due("twelve acts", x.count(5), 12);
        x.unsay();
        CHECK.due("room again", x.say(W, ONE, 0, 1), 12);
    }

    private static void unsay() {
        ProphetFines x = Check.told(ALL_KINDS);
        CHECK.due("none", x.unsay(), Check.STATE);
        CHECK.due("none without a republic", new ProphetFines().unsay(), Check.STATE);
        x.say(W, SURE, 0, 0);
        x.say(L, NOT, 1, 1);
        CHECK.due("the last", x.unsay(), 1);
        CHECK.due("the first stands", x.saying(0, 0), W);
        CHECK.due("the last does not", x.saying(1, 0), Check.BAD);
        CHECK.due("three acts", x.count(5), 3);
        CHECK.due("the first", x.unsay(), 0);
        CHECK.due("none is left", x.unsay(), Check.STATE);
        CHECK.due("what is refused is no act", x.count(5), 4);
    }

    private static void chance() {
        ProphetFines x = Check.told(ALL_KINDS);
        CHECK.due("it was 5", x.chance(0, 1), 5);
        CHECK.due("it was 1", x.chance(0, 19), 1);
        CHECK.due("it was 10", x.chance(1, 3), 10);
        CHECK.due("odds of 0", x.odds(SURE, 0, 0), 380);
        CHECK.due("odds of 1", x.odds(SURE, 1, 1), 60);
        CHECK.due("chance 0", x.chance(0, 0), Check.BAD);
        CHECK.due("chance 20", x.chance(0, 20), Check.BAD);
        CHECK.due("event -1", x.chance(-1, 5), Check.BAD);
        CHECK.due("event 2", x.chance(2, 5), Check.BAD);
        CHECK.due("three acts", x.count(5), 3);
        x.say(W, SURE, 0, 0);
        CHECK.due("a fine follows the chance", x.fine(0, 1), 2 + 7);
        x.chance(0, 10);
        CHECK.due("a fine follows the chance", x.fine(0, 1), 20 + 7);
    }

    private static void year() {
        ProphetFines x = Check.told(ALL_KINDS);
        CHECK.due("no republic goes ahead of BAD", new ProphetFines().year(-1), Check.STATE);
        CHECK.due("set -1", x.year(-1), Check.BAD);
        CHECK.due("set 4", x.year(4), Check.BAD);
        CHECK.due("no year was gone", x.count(4), 0);
        x.say(W, SURE, 0, 0);
        x.say(W, BOTH, 0, 1);
        x.say(L, SURE, 0, 0);
        x.say(A, ONE, 0, 1);
        x.say(O, NOT, 1, 1);
        x.say(O, NOT, 0, 0);
        x.say(I, EITHER, 0, 1);
        CHECK.due("five are true", x.year(1), 5);
        expectProphet(x, W, 6 - 37, 1, 1);
        expectProphet(x, L, 6 - 15, 1, 0);
        expectProphet(x, A, 6 - 54, 1, 0);
        expectProphet(x, O, 6, 1, 1);
        expectProphet(x, I, 0, 1, 0);
        CHECK.due("no sayings stand", x.count(3), 0);
        CHECK.due("one year", x.count(4), 1);
        CHECK.due("a year without sayings", x.year(3), 0);
        x.say(W, SURE, 0, 0);
        CHECK.due("first again, in a new year", x.year(3), 1);
        expectProphet(x, W, -31 - 31, 2, 1);
        CHECK.due("three years", x.count(4), 3);
    }

    private static void expectProphet(ProphetFines x, int p, int purse, int right, int wrong) {
        CHECK.due("purse of " + p, x.prophet(p, 0), purse);
        CHECK.due("right of " + p, x.prophet(p, 1), right);
        CHECK.due("wrong of " + p, x.prophet(p, 2), wrong);
    }

    /** Seed 1 gives rests 7, 9, 13, 18, 10, 12; seed 999999 gives 4, 12, 19, 19, 8, 2. */
    private static void drawn() {
        ProphetFines x = Check.told("f10,7;v8;v9;v14;v18;v11;v12;w6;");
        CHECK.due("no republic goes ahead of BAD", new ProphetFines().drawn(0), Check.STATE);
        CHECK.due("seed 0", x.drawn(0), Check.BAD);
        CHECK.due("seed -1", x.drawn(-1), Check.BAD);
        CHECK.due("seed 1000000", x.drawn(1000000), Check.BAD);
        CHECK.due("no year was gone", x.count(4), 0);
        x.say(0, SURE, 0, 0);
        x.say(0, SURE, 1, 1);
        CHECK.due("seed 1", x.drawn(1), 1 + 4 + 16);
        CHECK.due("one was right", x.prophet(0, 1), 1);
        CHECK.due("one was wrong", x.prophet(0, 2), 1);
        CHECK.due("purse", x.prophet(0, 0), 6 - (24 + 7));
        CHECK.due("no sayings stand", x.count(3), 0);
        CHECK.due("one year", x.count(4), 1);
        CHECK.due("three acts", x.count(5), 3);
        CHECK.due("the same seed, the same set", x.drawn(1), 21);
        CHECK.due("seed 999999", x.drawn(999999), 1 + 16 + 32);
        ProphetFines y = Check.told("f1,0;v7;v10;");
        CHECK.due("seed 1 without event 0", y.drawn(1), 2);
    }

    /** No object is promised to live so long; but the bound is told, so it is kept. */
    private static void yearsAreFull() {
        ProphetFines x = Check.told("f1,0;v7;v10;");
        for (int i = 0; i < 998; i++) {
            x.year(0);
        }
        CHECK.due("998 are gone", x.drawn(1), 2);
        CHECK.due("999 are gone", x.year(0), Check.FULL);
        CHECK.due("999 are gone", x.drawn(1), Check.FULL);
        CHECK.due("BAD goes ahead of FULL", x.year(4), Check.BAD);
        CHECK.due("BAD goes ahead of FULL", x.drawn(0), Check.BAD);
        CHECK.due("999 years", x.count(4), 999);
    }

    private static void prophet() {
        ProphetFines x = Check.told("f10,7;v5;w3;i50;");
        x.say(1, SURE, 0, 0);
        x.say(1, NOT, 0, 0);
        x.say(0, NOT, 0, 0);
        CHECK.due("heed", x.prophet(0, 3), 3);
        CHECK.due("heed of a fool", x.prophet(1, 3), 50);
        CHECK.due("sayings", x.prophet(0, 4), 1);
        CHECK.due("sayings", x.prophet(1, 4), 2);
        x.year(0);
        expectProphet(x, 0, 3 - 10, 1, 0);
        expectProphet(x, 1, 0, 1, 1);
        CHECK.due("sayings", x.prophet(1, 4), 0);
        CHECK.due("prophet -1", x.prophet(-1, 0), Check.BAD);
        CHECK.due("prophet 2", x.prophet(2, 0), Check.BAD);
        CHECK.due("what -1", x.prophet(0, -1), Check.BAD);
        CHECK.due("what 5", x.prophet(0, 5), Check.BAD);
    }

    private static void saying() {
        ProphetFines x = Check.told(ALL_KINDS);
        x.say(L, ONE, 0, 1);
        x.say(A, EITHER, 0, 1);
        x.say(W, ONE, 0, 1);
        x.say(W, NOT, 1, 1);
        int[][] due = {{L, ONE, 0, 1, 1}, {A, EITHER, 0, 1, 1}, {W, ONE, 0, 1, 0}, {W, NOT, 1, 1, 1}};
        for (int s = 0; s < due.length; s++) {
            for (int what = 0; what < 5; what++) {
                CHECK.due("saying(" + s + ", " + what + ")", x.saying(s, what), due[s][what]);
            }
        }
        CHECK.due("saying -1", x.saying(-1, 0), Check.BAD);
        CHECK.due("saying 4", x.saying(4, 0), Check.BAD);
        CHECK.due("what -1", x.saying(0, -1), Check.BAD);
        CHECK.due("what 5", x.saying(0, 5), Check.BAD);
    }

    private static void odds() {
        ProphetFines x = Check.told(ALL_KINDS);
        CHECK.due("SURE 0", x.odds(SURE, 0, 0), 100);
        CHECK.due("NOT 0", x.odds(NOT, 0, 0), 300);
        CHECK.due("BOTH", x.odds(BOTH, 0, 1), 50);
        CHECK.due("EITHER", x.odds(EITHER, 0, 1), 250);
        CHECK.due("ONE", x.odds(ONE, 0, 1), 200);
        x.chance(1, 19);
        CHECK.due("BOTH, of another chance", x.odds(BOTH, 0, 1), 95);
        CHECK.due("EITHER, of another chance", x.odds(EITHER, 0, 1), 385);
        CHECK.due("ONE, of another chance", x.odds(ONE, 0, 1), 290);
        CHECK.due("form 5", x.odds(5, 0, 1), Check.BAD);
        CHECK.due("form -1", x.odds(-1, 0, 0), Check.BAD);
        CHECK.due("event 2", x.odds(BOTH, 0, 2), Check.BAD);
        CHECK.due("event -1", x.odds(BOTH, -1, 1), Check.BAD);
        CHECK.due("f is not e", x.odds(NOT, 0, 1), Check.BAD);
        CHECK.due("e is f", x.odds(ONE, 0, 0), Check.BAD);
        CHECK.due("e is more than f", x.odds(ONE, 1, 0), Check.BAD);
    }

    private static void fineByKind() {
        ProphetFines x = Check.told(ALL_KINDS);
        int[] first = {37, 18, 74, 37, 0};
        int[] later = {30, 15, 60, 30, 0};
        for (int p = W; p <= I; p++) {
            x.say(p, SURE, 0, 0);
            x.say(p, SURE, 0, 0);
            expectFines(x, 0, 0, first[p], 0, first[p]);
            expectFines(x, 1, 0, later[p], 0, later[p]);
            x.unsay();
            x.unsay();
        }
        for (int p = W; p <= I; p++) {
            x.say(p, SURE, 0, 0);
            expectFines(x, p, 0, p == W ? first[p] : later[p], 0, p == W ? first[p] : later[p]);
        }
        x.say(W, NOT, 0, 0);
        expectFines(x, 5, 17, 0, 17, 0);
        x.say(W, BOTH, 0, 1);
        expectFines(x, 6, 0, 0, 0, 42);
        x.say(W, EITHER, 0, 1);
        expectFines(x, 7, 0, 22, 22, 22);
        x.say(W, ONE, 0, 1);
        expectFines(x, 8, 0, 27, 27, 0);
        CHECK.due("saying 9", x.fine(9, 0), Check.BAD);
        CHECK.due("saying -1", x.fine(-1, 0), Check.BAD);
        CHECK.due("set -1", x.fine(0, -1), Check.BAD);
        CHECK.due("set 4", x.fine(0, 4), Check.BAD);
    }

    private static void expectFines(ProphetFines x, int saying, int... due) {
        for (int set = 0; set < due.length; set++) {
            CHECK.due("fine(" + saying + ", " + set + ")", x.fine(saying, set), due[set]);
        }
    }

    private static void fineOfOracle() {
        ProphetFines x = Check.told("f10,7;v5;v10;o6;o6;i6;");
        x.say(0, SURE, 0, 0);
        x.say(1, SURE, 1, 1);
        expectFines(x, 0, 0, 37, 0, 37);
        x.say(0, NOT, 1, 1);
        expectFines(x, 0, 0, 37, 0, 0);
        expectFines(x, 1, 0, 0, 27, 27);
        expectFines(x, 2, 0, 27, 0, 0);
        x.say(0, SURE, 1, 1);
        expectFines(x, 0, 0, 0, 0, 0);
        x.say(2, SURE, 0, 0);
        expectFines(x, 4, 0, 0, 0, 0);
    }

    private static void fineCut() {
        ProphetFines x = Check.told("f3,0;v5;v10;w0;l0;a0;");
        x.say(0, BOTH, 0, 1);
        x.say(1, BOTH, 0, 1);
        x.say(2, BOTH, 0, 1);
        x.say(1, SURE, 0, 0);
        CHECK.due("350 times 3 by 100", x.fine(0, 3), 10);
        CHECK.due("half of 10", x.fine(1, 3), 5);
        CHECK.due("twice what was cut", x.fine(2, 3), 20);
        CHECK.due("half of 9", x.fine(3, 3), 4);
    }

    private static void net() {
        ProphetFines x = Check.told(ALL_KINDS);
        for (int p = W; p <= I; p++) {
            x.say(p, SURE, 0, 0);
            x.say(p, SURE, 1, 1);
        }
        expectNets(x, W, 0, 6 - 37, 6 - 27, 12 - 64);
        expectNets(x, L, 0, 6 - 15, 6 - 10, 12 - 25);
        expectNets(x, A, 0, 6 - 60, 6 - 40, 12 - 100);
        expectNets(x, O, 0, 6, 6, 12 - 50);
        expectNets(x, I, 0, 0, 0, 0);
        CHECK.due("prophet 5", x.net(5, 0), Check.BAD);
        CHECK.due("prophet -1", x.net(-1, 0), Check.BAD);
        CHECK.due("set 4", x.net(0, 4), Check.BAD);
        CHECK.due("set -1", x.net(0, -1), Check.BAD);
        CHECK.due("nothing changes", x.count(5), 10);
    }

    private static void expectNets(ProphetFines x, int p, int... due) {
        for (int set = 0; set < due.length; set++) {
            CHECK.due("net(" + p + ", " + set + ")", x.net(p, set), due[set]);
        }
    }
}
