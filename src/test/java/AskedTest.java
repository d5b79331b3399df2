/** Promises 32 to 37: kinds, asks and their trace, counts, and status() of as(). */
public final class AskedTest {
    private static final Check CHECK = new Check();

    public static void main(String[] args) {
        kind();
        as();
        ask();
        trace();
        count();
        CHECK.end();
    }

    private static void kind() {
        ProphetFines x = Check.told("f1,0;v1;i0;o0;a0;l0;w0;");
        for (int p = 0; p < 5; p++) {
            CHECK.due("kind(" + p + ")", x.kind(p), 5 - p);
        }
        CHECK.due("kind(5)", x.kind(5), Check.BAD);
        CHECK.due("kind(-1)", x.kind(-1), Check.BAD);
        CHECK.due("kind(1) of one", Check.told("f1,0;v1;i0;").kind(1), Check.BAD);
    }

    private static void as() {
        ProphetFines x = Check.told("f1,0;v1;w0;l0;a0;o0;i0;");
        String[] kinds = {"110000", "111000", "110100", "100010", "100011"};
        for (int p = 0; p < 5; p++) {
            for (int kind = 0; kind < 6; kind++) {
                boolean isSo = kinds[p].charAt(kind) == '1';
                CHECK.due("as(" + p + ", " + kind + ")", x.as(p, kind), isSo ? p : Check.KIND);
                CHECK.due("status", x.status(), isSo ? 0 : 3);
            }
        }
        x.as(0, 5);
        CHECK.due("kind 6", x.as(0, 6), Check.BAD);
        CHECK.due("kind -1", x.as(0, -1), Check.BAD);
        CHECK.due("prophet 5", x.as(5, 0), Check.BAD);
        CHECK.due("prophet -1", x.as(-1, 0), Check.BAD);
        CHECK.due("BAD leaves status", x.status(), 3);
        x.as(0, 1);
        CHECK.due("no finding", x.status(), 0);
    }

    private static void expectAsk(ProphetFines x, int one, int what, int due, int... trace) {
        String name = "ask(" + one + ", " + what + ")";
        CHECK.due(name, x.ask(one, what), due);
        for (int i = 0; i < trace.length; i++) {
            CHECK.due(name + ": trace " + i, x.trace(i), trace[i]);
        }
        CHECK.due(name + ": end of the trace", x.trace(trace.length), Check.NONE);
    }

    /** PURSES are -31, -9, -54, -24, 0; then they say 2, 2, 3, 1, 2. */
    private static void ask() {
        ProphetFines x = Check.told("f10,7;v5;v10;w6;l6;a6;o6;i6;");
        for (int p = 0; p < 5; p++) {
            x.say(p, 0, 0, 0);
        }
        x.year(1);
        int[] sayings = {2, 2, 3, 1, 2};
        for (int p = 0; p < 5; p++) {
            for (int i = 0; i < sayings[p]; i++) {
                x.say(p, 2, 0, 1);
            }
        }
        expectAsk(x, 0, 0, -29, 11, 10, 21, 20);
        expectAsk(x, 1, 0, 3, 12, 11, 10, 24, 21, 20);
        expectAsk(x, 2, 0, -1049, 11, 10, 22, 21, 20);
        expectAsk(x, 3, 0, -124, 13, 10);
        expectAsk(x, 4, 0, -200, 14, 13, 10);
        expectAsk(x, 0, 1, 2, 21, 20);
        expectAsk(x, 1, 1, 6, 24, 21, 20);
        expectAsk(x, 2, 1, -995, 22, 21, 20);
        expectAsk(x, 3, 1, 127, 23, 20, 13, 10);
        expectAsk(x, 4, 1, 204, 23, 20, 14, 13, 10);
        CHECK.due("prophet 5", x.ask(5, 0), Check.BAD);
        CHECK.due("prophet -1", x.ask(-1, 0), Check.BAD);
        CHECK.due("what 2", x.ask(0, 2), Check.BAD);
        CHECK.due("what -1", x.ask(0, -1), Check.BAD);
        CHECK.due("what is refused leaves the trace", x.trace(0), 23);
        CHECK.due("no act", x.count(5), 16);
    }

    private static void trace() {
        ProphetFines x = Check.told("f1,0;v1;w0;");
        CHECK.due("empty", x.trace(0), Check.NONE);
        x.ask(0, 0);
        CHECK.due("the first", x.trace(0), 11);
        CHECK.due("the last", x.trace(3), 20);
        CHECK.due("-1", x.trace(-1), Check.NONE);
        CHECK.due("4", x.trace(4), Check.NONE);
        CHECK.due("16", x.trace(16), Check.NONE);
        CHECK.due("the least", x.trace(Integer.MIN_VALUE), Check.NONE);
        CHECK.due("the most", x.trace(Integer.MAX_VALUE), Check.NONE);
        Check.tell(x, "f1,0;v1;o0;");
        CHECK.due("a new republic leaves the trace", x.trace(0), 11);
    }

    private static void count() {
        ProphetFines x = Check.told("f1,0;v1;v2;v3;w0;l0;");
        x.row(0, 0, 1);
        x.row(5, 0, 0);
        x.year(0);
        x.say(0, 0, 0, 0);
        x.say(1, 0, 0, 0);
        x.unsay();
        x.drawn(3);
        x.say(1, 0, 1, 1);
        x.feed('a');
        x.feed('b');
        x.feed('c');
        x.feed('d');
        int[] due = {2, 3, 2, 1, 2, 6, 4};
        for (int what = 0; what < due.length; what++) {
            CHECK.due("count(" + what + ")", x.count(what), due[what]);
        }
        CHECK.due("count(7)", x.count(7), Check.BAD);
        CHECK.due("count(-1)", x.count(-1), Check.BAD);
    }
}
