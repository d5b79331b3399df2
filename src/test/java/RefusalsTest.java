import java.util.ArrayList;
import java.util.List;

/**
 * 'Refusals are answers, the first of these that fits' and 'What is refused, or found, changes nothing but
 * status()': every refusal of every call, and which of two comes first. Each call is made on one of two objects
 * of the same past; then all that can be seen of both is compared.
 */
public final class RefusalsTest {
    private static final Check CHECK = new Check();
    private static final int MIN = Integer.MIN_VALUE, MAX = Integer.MAX_VALUE;
    private static final String LONGEST = "f20,50;v19;v3;v7;v11;v13;v17;w50;l40;a30;o20;i10;";

    private interface Call {
        long on(ProphetFines x);
    }

    private interface State {
        ProphetFines made();
    }

    private interface Probe {
        void look(ProphetFines x, List<Long> seen);
    }

    private static final Probe[] PROBES = {
        RefusalsTest::lookAtFace, RefusalsTest::lookAtFines, RefusalsTest::lookAtPast,
        RefusalsTest::lookAtImages, RefusalsTest::lookAtTape, RefusalsTest::lookAtRows};

    public static void main(String[] args) {
        twinsAreAlike();
        for (State state : new State[] {RefusalsTest::fresh, RefusalsTest::bare, RefusalsTest::busy, RefusalsTest::full}) {
            refusedOfRowsInAnyState(state);
            refusedOfWhatIsToldInAnyState(state);
            refusedOfWhatIsSaidInAnyState(state);
            refusedOfForetoldInAnyState(state);
            refusedOfAskedInAnyState(state);
        }
        refusedWithoutRepublic();
        refusedWithoutProphets();
        refusedOfBusyRows();
        refusedOfBusyRepublic();
        refusedOfFull();
        refusedOf999Years();
        askedAndForetoldChangeNothing();
        actsUndoneLeaveNothing();
        CHECK.end();
    }

    // ---- states

    private static ProphetFines fresh() {
        return new ProphetFines();
    }

    private static ProphetFines bare() {
        return Check.told("f1,0;v1;");
    }

    /** Three EVENTS, five PROPHETS, three SAYINGS; rows 0 to 2 and 4, one image, a text on the tape. */
    private static ProphetFines busy() {
        ProphetFines x = Check.told("f5,10;v4;v10;v13;w9;l8;a7;o6;i5;");
        Check.tell(x, "f0");
        x.say(1, 0, 0, 0);
        x.say(3, 4, 0, 2);
        x.year(5);
        x.chance(1, 12);
        x.image(0);
        x.say(0, 0, 0, 0);
        x.say(3, 3, 1, 2);
        x.say(2, 0, 0, 0);
        x.ask(1, 0);
        Check.feedAll(x, "f7,3;v2;v3;o5;");
        x.row(0, 0, 3);
        x.set(0, 0, 21);
        x.set(0, 2, 22);
        x.row(1, 1, 40);
        x.set(1, 39, 31);
        x.row(2, 2, 0);
        x.row(4, 2, 6);
        x.set(4, 0, 1);
        x.set(4, 2, -2);
        x.as(0, 1);
        return x;
    }

    private static ProphetFines full() {
        ProphetFines x = Check.told(LONGEST);
        Check.tell(x, "v");
        x.image(1);
        for (int n = 0; n < 7; n++) {
            x.say(n % 5, 0, n % 6, n % 6);
            x.chance(n % 6, n + 2);
        }
        x.year(42);
        x.image(0);
        for (int n = 0; n < 12; n++) {
            x.say(n % 5, n % 3 + 2, n % 3, n % 3 + 3);
        }
        x.ask(4, 1);
        Check.feedAll(x, LONGEST);
        for (int n = LONGEST.length(); n < 100; n++) {
            x.feed(';');
        }
        for (int row = 0; row < 8; row++) {
            x.row(row, row % 3, 40);
            x.set(row, 0, row + 1);
            x.set(row, 39, row + 11);
        }
        return x;
    }

    private static ProphetFines after999() {
        ProphetFines x = Check.told("f10,7;v5;w6;");
        for (int n = 0; n < 998; n++) {
            x.year(0);
        }
        x.say(0, 0, 0, 0);
        x.year(1);
        x.say(0, 1, 0, 0);
        return x;
    }

    // ---- all that can be seen

    private static void lookAtFace(ProphetFines x, List<Long> seen) {
        for (int what = 0; what <= 6; what++) {
            seen.add((long) x.count(what));
        }
        for (int i = 0; i <= 7; i++) {
            seen.add((long) x.trace(i));
        }
        for (int p = 0; p < 5; p++) {
            seen.add((long) x.kind(p));
            for (int what = 0; what < 5; what++) {
                seen.add((long) x.prophet(p, what));
            }
        }
        for (int s = 0; s < 12; s++) {
            for (int what = 0; what < 5; what++) {
                seen.add((long) x.saying(s, what));
            }
        }
        for (int form = 0; form < 5; form++) {
            for (int e = 0; e < 6; e++) {
                seen.add((long) x.odds(form, form < 2 ? e : 0, form < 2 ? e : e + 1));
            }
        }
        seen.add((long) x.fault());
        seen.add((long) x.heeded());
    }

    private static void lookAtFines(ProphetFines x, List<Long> seen) {
        int last = (1 << x.count(1)) - 1;
        for (int set : new int[] {0, 1, 2, last / 2, last}) {
            for (int s = 0; s < 12; s++) {
                seen.add((long) x.fine(s, set));
            }
            for (int p = 0; p < 5; p++) {
                seen.add((long) x.net(p, set));
            }
        }
        for (int p = 0; p < 5; p++) {
            seen.add(x.expected(p, 0));
            seen.add((long) x.plain(p));
        }
        seen.add((long) x.loopholes(0));
        seen.add((long) x.shut());
        seen.add((long) x.group(3, -1));
    }

    private static void lookAtPast(ProphetFines x, List<Long> seen) {
        long left = 0;
        for (int n = 0; n < 25 && left != Check.STATE; n++) {
            left = x.undo();
            seen.add(left);
            seen.add((long) x.count(3));
            seen.add((long) x.count(4));
            seen.add((long) x.odds(0, n % 6, n % 6));
            for (int what = 0; what < 3; what++) {
                seen.add((long) x.prophet(n % 5, what));
            }
            seen.add((long) x.saying(0, 1));
            seen.add((long) x.saying(x.count(3) - 1, 1));
        }
    }

    private static void lookAtImages(ProphetFines x, List<Long> seen) {
        for (int k = 0; k < 2; k++) {
            seen.add((long) x.restore(k));
            for (int what = 1; what < 6; what++) {
                seen.add((long) x.count(what));
            }
            for (int n = 0; n < 6; n++) {
                seen.add((long) x.odds(0, n, n));
                seen.add((long) x.prophet(n, 0));
                seen.add((long) x.prophet(n, 3));
                seen.add((long) x.saying(2 * n, 0));
                seen.add((long) x.saying(2 * n + 1, 1));
            }
        }
    }

    private static void lookAtTape(ProphetFines x, List<Long> seen) {
        seen.add((long) x.feed('w'));
        seen.add((long) x.feed('3'));
        seen.add((long) x.feed(';'));
        seen.add((long) x.republic());
        lookAtFace(x, seen);
    }

    private static void lookAtRows(ProphetFines x, List<Long> seen) {
        x.republic();
        Check.tell(x, Check.READER);
        Check.sayAllOfReader(x);
        for (int row = 0; row < 8; row++) {
            for (int i : new int[] {0, 1, 2, 38, 39}) {
                seen.add((long) Check.item(x, row, i));
            }
            for (int i : new int[] {1, 3, 4, 6, 7, 39, 40, 41}) {
                seen.add((long) x.copy(row, i, row, i, 0));
            }
            for (int other = 0; other < 8; other++) {
                seen.add((long) x.copy(row, 0, other, 0, 0));
            }
        }
        for (int row = 0; row < 8; row++) {
            seen.add((long) x.set(row, 0, 0x18080));
        }
    }

    // ---- how they are compared

    private static void expectAlike(String name, State state, Call[] past, Call[] pastOfOther) {
        for (int k = 0; k < PROBES.length; k++) {
            List<Long> seen = new ArrayList<>();
            List<Long> seenOfOther = new ArrayList<>();
            PROBES[k].look(lived(state, past), seen);
            PROBES[k].look(lived(state, pastOfOther), seenOfOther);
            CHECK.holds(name + ": probe " + k + " sees " + seen + ", not " + seenOfOther, seen.equals(seenOfOther));
        }
    }

    private static ProphetFines lived(State state, Call... past) {
        ProphetFines x = state.made();
        for (Call call : past) {
            call.on(x);
        }
        return x;
    }

    private static boolean isFinding(long answer) {
        return answer <= -1000011 && answer >= -1000015;
    }

    /** The answer, its status (whatever it was ahead), and that nothing else has changed. */
    private static void refused(State state, String name, long due, Call call) {
        CHECK.says("the first of these that fits");
        Call unmarked = x -> 0;
        Call marked = x -> x.row(0, 0, -1);
        for (Call ahead : new Call[] {unmarked, marked}) {
            ProphetFines x = lived(state, ahead);
            int before = x.status();
            CHECK.due(name, call.on(x), due);
            CHECK.due("status behind " + name, x.status(), isFinding(due) ? -1000010 - due : before);
        }
        CHECK.says("What is refused, or found, changes nothing but status()");
        expectAlike(name, state, new Call[] {call}, new Call[0]);
    }

    /** That the probes see what they are for: each of these changes something that one of them sees. */
    private static void twinsAreAlike() {
        CHECK.says("[what the test sees]");
        Call[] changes = {
            x -> x.row(3, 0, 0), x -> x.row(0, 0, 4), x -> x.row(0, 1, 3), x -> x.set(0, 0, 20), x -> x.set(1, 39, 30),
            x -> x.copy(0, 0, 0, 2, 1), x -> x.drop(2), x -> x.feed('w'), x -> x.republic(), x -> x.undo(),
            x -> x.say(4, 0, 0, 0), x -> x.unsay(), x -> x.chance(1, 11), x -> x.chance(1, 12), x -> x.year(0),
            x -> x.drawn(1), x -> x.image(0), x -> x.image(1), x -> x.restore(0), x -> x.ask(0, 0)};
        expectAlike("nothing", RefusalsTest::busy, new Call[0], new Call[0]);
        for (int n = 0; n < changes.length; n++) {
            boolean isSeen = false;
            for (Probe probe : PROBES) {
                List<Long> seen = new ArrayList<>();
                List<Long> seenOfOther = new ArrayList<>();
                probe.look(lived(RefusalsTest::busy, changes[n]), seen);
                probe.look(busy(), seenOfOther);
                isSeen |= !seen.equals(seenOfOther);
            }
            CHECK.holds("change " + n + " is seen", isSeen);
        }
    }

    // ---- what is refused in any state

    private static void refusedOfRowsInAnyState(State in) {
        for (int no : new int[] {MIN, -1, 8, MAX}) {
            refused(in, "row(" + no + ", ..)", Check.BAD, x -> x.row(no, 0, 1));
            refused(in, "row(" + no + ", ..): BAD ahead of SIZE", Check.BAD, x -> x.row(no, 0, -1));
            refused(in, "set(" + no + ", ..)", Check.BAD, x -> x.set(no, 0, 1));
            refused(in, "set(" + no + ", ..): BAD ahead of PLACE", Check.BAD, x -> x.set(no, -1, 1));
            refused(in, "copy(" + no + ", ..): BAD ahead of NULL", Check.BAD, x -> x.copy(no, 0, 3, 0, 1));
            refused(in, "copy(.., " + no + ", ..): BAD ahead of NULL", Check.BAD, x -> x.copy(3, 0, no, 0, 1));
            refused(in, "copy(" + no + ", ..): BAD ahead of PLACE", Check.BAD, x -> x.copy(no, -1, 0, -1, -1));
            refused(in, "copy(.., " + no + ", ..): BAD ahead of PLACE", Check.BAD, x -> x.copy(0, 41, no, -1, -1));
            refused(in, "drop(" + no + ")", Check.BAD, x -> x.drop(no));
        }
        for (int no : new int[] {MIN, -1, 3, MAX}) {
            refused(in, "lane " + no, Check.BAD, x -> x.row(0, no, 1));
            refused(in, "lane " + no + ": BAD ahead of SIZE", Check.BAD, x -> x.row(0, no, -1));
        }
        refused(in, "41 items", Check.BAD, x -> x.row(0, 0, 41));
        refused(in, "the most items", Check.BAD, x -> x.row(0, 0, MAX));
        refused(in, "-1 items", Check.SIZE, x -> x.row(0, 0, -1));
        refused(in, "the fewest items", Check.SIZE, x -> x.row(7, 2, MIN));
    }

    private static void refusedOfWhatIsToldInAnyState(State in) {
        for (int no : new int[] {MIN, -1, 256, MAX}) {
            refused(in, "feed(" + no + ")", Check.BAD, x -> x.feed(no));
        }
    }

    private static void refusedOfWhatIsSaidInAnyState(State in) {
        for (int no : new int[] {MIN, -1, 5, MAX}) {
            refused(in, "say(" + no + ", ..)", Check.BAD, x -> x.say(no, 0, 0, 0));
            refused(in, "say, form " + no, Check.BAD, x -> x.say(0, no, 0, no == 5 ? 1 : 0));
            refused(in, "odds, form " + no, Check.BAD, x -> x.odds(no, 0, 0));
            refused(in, "prophet(" + no + ", 0)", Check.BAD, x -> x.prophet(no, 0));
            refused(in, "prophet(0, " + no + ")", Check.BAD, x -> x.prophet(0, no));
            refused(in, "saying(0, " + no + ")", Check.BAD, x -> x.saying(0, no));
            refused(in, "net(" + no + ", 0)", Check.BAD, x -> x.net(no, 0));
        }
        for (int no : new int[] {MIN, -1, 6, MAX}) {
            refused(in, "say, event " + no, Check.BAD, x -> x.say(0, 0, no, no));
            refused(in, "say, f " + no, Check.BAD, x -> x.say(0, 2, 0, no));
            refused(in, "odds, event " + no, Check.BAD, x -> x.odds(1, no, no));
            refused(in, "chance(" + no + ", 5)", Check.BAD, x -> x.chance(no, 5));
        }
        for (int no : new int[] {MIN, -1, 0, 20, MAX}) {
            refused(in, "chance(0, " + no + ")", Check.BAD, x -> x.chance(0, no));
        }
        for (int no : new int[] {MIN, -1, 12, MAX}) {
            refused(in, "saying(" + no + ", 0)", Check.BAD, x -> x.saying(no, 0));
            refused(in, "fine(" + no + ", 0)", Check.BAD, x -> x.fine(no, 0));
        }
        for (int no : new int[] {MIN, -1, 64, MAX}) {
            refused(in, "fine(0, " + no + ")", Check.BAD, x -> x.fine(0, no));
            refused(in, "net(0, " + no + ")", Check.BAD, x -> x.net(0, no));
        }
        refused(in, "SURE of two", Check.BAD, x -> x.say(0, 0, 0, 1));
        refused(in, "NOT of two", Check.BAD, x -> x.say(0, 1, 1, 0));
        for (int form = 2; form <= 4; form++) {
            int of = form;
            refused(in, "form " + form + " of one", Check.BAD, x -> x.say(0, of, 1, 1));
            refused(in, "form " + form + ", e more than f", Check.BAD, x -> x.say(0, of, 1, 0));
        }
    }

    private static void refusedOfForetoldInAnyState(State in) {
        for (int no : new int[] {MIN, -1, 2, MAX}) {
            refused(in, "expected(0, " + no + ")", Check.BAD, x -> x.expected(0, no));
            refused(in, "worst(0, " + no + ")", Check.BAD, x -> x.worst(0, no));
            refused(in, "premium(0, " + no + ")", Check.BAD, x -> x.premium(0, no));
            refused(in, "image(" + no + "): BAD ahead of STATE", Check.BAD, x -> x.image(no));
            refused(in, "restore(" + no + "): BAD ahead of STATE", Check.BAD, x -> x.restore(no));
        }
        for (int no : new int[] {MIN, -1, 5, MAX}) {
            refused(in, "expected(" + no + ", 0)", Check.BAD, x -> x.expected(no, 0));
            refused(in, "worst(" + no + ", 0)", Check.BAD, x -> x.worst(no, 0));
            refused(in, "cheapest(" + no + ", 0, 0)", Check.BAD, x -> x.cheapest(no, 0, 0));
            refused(in, "plain(" + no + ")", Check.BAD, x -> x.plain(no));
        }
        for (int no : new int[] {MIN, -1, 6, MAX}) {
            refused(in, "cheapest(0, " + no + ", 0)", Check.BAD, x -> x.cheapest(0, no, 0));
        }
        for (int no : new int[] {MIN, -1, 4, MAX}) {
            refused(in, "cheapest(0, 0, " + no + ")", Check.BAD, x -> x.cheapest(0, 0, no));
        }
        for (int no : new int[] {MIN, -1, 12, MAX}) {
            refused(in, "premium(" + no + ", 0)", Check.BAD, x -> x.premium(no, 0));
        }
    }

    private static void refusedOfAskedInAnyState(State in) {
        for (int no : new int[] {MIN, -1, 5, MAX}) {
            refused(in, "kind(" + no + ")", Check.BAD, x -> x.kind(no));
            refused(in, "as(" + no + ", 0)", Check.BAD, x -> x.as(no, 0));
            refused(in, "ask(" + no + ", 0)", Check.BAD, x -> x.ask(no, 0));
        }
        for (int no : new int[] {MIN, -1, 6, MAX}) {
            refused(in, "as(0, " + no + ")", Check.BAD, x -> x.as(0, no));
        }
        for (int no : new int[] {MIN, -1, 2, MAX}) {
            refused(in, "ask(0, " + no + ")", Check.BAD, x -> x.ask(0, no));
        }
        for (int no : new int[] {MIN, -1, 7, MAX}) {
            refused(in, "count(" + no + ")", Check.BAD, x -> x.count(no));
        }
    }

    // ---- what is refused in one state

    private static void refusedWithoutRepublic() {
        State in = RefusalsTest::fresh;
        refused(in, "set", Check.NULL, x -> x.set(0, 0, 0));
        refused(in, "set: NULL ahead of PLACE", Check.NULL, x -> x.set(7, -1, 0));
        refused(in, "copy", Check.NULL, x -> x.copy(0, 0, 7, 0, 0));
        refused(in, "copy: NULL ahead of PLACE", Check.NULL, x -> x.copy(0, -1, 0, -1, -1));
        refused(in, "drop", Check.NULL, x -> x.drop(0));
        refused(in, "undo", Check.STATE, x -> x.undo());
        refused(in, "unsay", Check.STATE, x -> x.unsay());
        refused(in, "say", Check.BAD, x -> x.say(0, 0, 0, 0));
        refused(in, "chance", Check.BAD, x -> x.chance(0, 5));
        refused(in, "year", Check.STATE, x -> x.year(0));
        refused(in, "drawn", Check.STATE, x -> x.drawn(1));
        refused(in, "loopholes", Check.STATE, x -> x.loopholes(0));
        refused(in, "shut", Check.STATE, x -> x.shut());
        refused(in, "group", Check.STATE, x -> x.group(2, -1));
        refused(in, "could", Check.STATE, x -> x.could(0, 0, 0));
        refused(in, "heeded", Check.STATE, x -> x.heeded());
        refused(in, "image", Check.STATE, x -> x.image(0));
        refused(in, "restore", Check.STATE, x -> x.restore(1));
        for (int no : new int[] {MIN, -1, 64, MAX}) {
            refused(in, "year(" + no + "): STATE ahead of BAD", Check.STATE, x -> x.year(no));
            refused(in, "loopholes(" + no + "): STATE ahead of BAD", Check.STATE, x -> x.loopholes(no));
            refused(in, "group(" + no + ", 0): STATE ahead of BAD", Check.STATE, x -> x.group(no, 0));
            refused(in, "group(2, " + no + "): STATE ahead of BAD", Check.STATE, x -> x.group(2, no == -1 ? 2 : no));
            refused(in, "could(" + no + ", ..): STATE ahead of BAD", Check.STATE, x -> x.could(no, 0, 0));
            refused(in, "could(.., " + no + "): STATE ahead of BAD", Check.STATE, x -> x.could(0, 0, no));
            refused(in, "could(0, " + no + ", 0): STATE ahead of PLACE", Check.STATE, x -> x.could(0, no, 0));
        }
        for (int no : new int[] {MIN, -1, 0, 1000000, MAX}) {
            refused(in, "drawn(" + no + "): STATE ahead of BAD", Check.STATE, x -> x.drawn(no));
        }
    }

    private static void refusedWithoutProphets() {
        State in = RefusalsTest::bare;
        refused(in, "undo", Check.STATE, x -> x.undo());
        refused(in, "unsay", Check.STATE, x -> x.unsay());
        refused(in, "restore", Check.STATE, x -> x.restore(0));
        refused(in, "say", Check.BAD, x -> x.say(0, 0, 0, 0));
        refused(in, "odds of BOTH of one event", Check.BAD, x -> x.odds(2, 0, 1));
        refused(in, "event 1 of one", Check.BAD, x -> x.odds(0, 1, 1));
        refused(in, "chance of event 1 of one", Check.BAD, x -> x.chance(1, 5));
        refused(in, "year of two events", Check.BAD, x -> x.year(2));
        refused(in, "prophet", Check.BAD, x -> x.prophet(0, 0));
        refused(in, "net", Check.BAD, x -> x.net(0, 0));
        refused(in, "expected", Check.BAD, x -> x.expected(0, 0));
        refused(in, "worst", Check.BAD, x -> x.worst(0, 0));
        refused(in, "cheapest", Check.BAD, x -> x.cheapest(0, 0, 0));
        refused(in, "plain", Check.BAD, x -> x.plain(0));
        refused(in, "kind", Check.BAD, x -> x.kind(0));
        refused(in, "as", Check.BAD, x -> x.as(0, 0));
        refused(in, "ask", Check.BAD, x -> x.ask(0, 0));
        refused(in, "saying", Check.BAD, x -> x.saying(0, 0));
        refused(in, "fine", Check.BAD, x -> x.fine(0, 0));
        refused(in, "premium", Check.BAD, x -> x.premium(0, 0));
        refused(in, "could", Check.NULL, x -> x.could(0, 0, 0));
    }

    /** Rows 0 (three bytes), 1 (forty shorts), 2 (no ints) and 4 (six ints, -2 at place 2) are there. */
    private static void refusedOfBusyRows() {
        State in = RefusalsTest::busy;
        refused(in, "row 0 of fewer than none", Check.SIZE, x -> x.row(0, 2, -1));
        refused(in, "set beyond", Check.PLACE, x -> x.set(0, 3, 9));
        refused(in, "set below", Check.PLACE, x -> x.set(0, -1, 9));
        refused(in, "set of none", Check.PLACE, x -> x.set(2, 0, 9));
        refused(in, "set beyond 40", Check.PLACE, x -> x.set(1, 40, 9));
        refused(in, "set of a missing one: NULL ahead of PLACE", Check.NULL, x -> x.set(3, 41, 9));
        refused(in, "copy to a missing one", Check.NULL, x -> x.copy(0, 0, 3, 0, 1));
        refused(in, "copy from a missing one", Check.NULL, x -> x.copy(3, 0, 0, 0, 1));
        refused(in, "copy: NULL ahead of PLACE", Check.NULL, x -> x.copy(0, -1, 3, 0, 1));
        refused(in, "copy of two lanes", Check.STORE, x -> x.copy(0, 0, 1, 0, 1));
        refused(in, "copy of two lanes, none", Check.STORE, x -> x.copy(1, 0, 2, 0, 0));
        refused(in, "copy: STORE ahead of PLACE (i)", Check.STORE, x -> x.copy(0, -1, 1, 0, 1));
        refused(in, "copy: STORE ahead of PLACE (j)", Check.STORE, x -> x.copy(0, 0, 1, -1, 1));
        refused(in, "copy: STORE ahead of PLACE (n)", Check.STORE, x -> x.copy(0, 0, 1, 0, -1));
        refused(in, "copy: STORE ahead of PLACE (beyond)", Check.STORE, x -> x.copy(0, 0, 4, 0, 4));
        refused(in, "copy: i below 0", Check.PLACE, x -> x.copy(0, -1, 0, 0, 1));
        refused(in, "copy: j below 0", Check.PLACE, x -> x.copy(0, 0, 0, -1, 1));
        refused(in, "copy: n below 0", Check.PLACE, x -> x.copy(0, 1, 0, 0, -1));
        refused(in, "copy: beyond the end of a", Check.PLACE, x -> x.copy(0, 2, 0, 0, 2));
        refused(in, "copy: beyond the end of b", Check.PLACE, x -> x.copy(0, 0, 0, 2, 2));
        refused(in, "copy: from a row of none", Check.PLACE, x -> x.copy(2, 0, 4, 0, 1));
        refused(in, "copy: to a row of none", Check.PLACE, x -> x.copy(4, 0, 2, 0, 1));
        refused(in, "drop of a missing one", Check.NULL, x -> x.drop(3));
        refused(in, "could: row 8, BAD ahead of PLACE", Check.BAD, x -> x.could(8, -1, 0));
        refused(in, "could: what 3, BAD ahead of NULL", Check.BAD, x -> x.could(3, 0, 3));
        refused(in, "could: what -1, BAD ahead of PLACE", Check.BAD, x -> x.could(0, 0, -1));
        refused(in, "could of a missing one", Check.NULL, x -> x.could(3, 0, 0));
        refused(in, "could: NULL ahead of PLACE", Check.NULL, x -> x.could(3, -1, 2));
        refused(in, "could: too few", Check.PLACE, x -> x.could(0, 0, 0));
        refused(in, "could: below", Check.PLACE, x -> x.could(1, -1, 1));
        refused(in, "could: beyond", Check.PLACE, x -> x.could(1, 36, 2));
        refused(in, "could: PLACE ahead of an ITEM below -1", Check.PLACE, x -> x.could(4, 2, 0));
        refused(in, "could: an ITEM below -1", Check.BAD, x -> x.could(4, 0, 0));
        refused(in, "could: an ITEM below -1, the last place", Check.BAD, x -> x.could(4, 1, 2));
    }

    private static void refusedOfBusyRepublic() {
        State in = RefusalsTest::busy;
        refused(in, "event 3 of three", Check.BAD, x -> x.say(0, 0, 3, 3));
        refused(in, "f 3 of three", Check.BAD, x -> x.say(0, 4, 2, 3));
        refused(in, "chance of 3", Check.BAD, x -> x.chance(3, 5));
        for (int no : new int[] {MIN, -1, 8, MAX}) {
            refused(in, "year(" + no + ")", Check.BAD, x -> x.year(no));
            refused(in, "fine(0, " + no + ")", Check.BAD, x -> x.fine(0, no));
            refused(in, "net(0, " + no + ")", Check.BAD, x -> x.net(0, no));
        }
        for (int no : new int[] {MIN, -1, 0, 1000000, MAX}) {
            refused(in, "drawn(" + no + ")", Check.BAD, x -> x.drawn(no));
        }
        for (int no : new int[] {MIN, -1, 3, MAX}) {
            refused(in, "saying(" + no + ", 0)", Check.BAD, x -> x.saying(no, 0));
            refused(in, "fine(" + no + ", 0)", Check.BAD, x -> x.fine(no, 0));
            refused(in, "premium(" + no + ", 0)", Check.BAD, x -> x.premium(no, 0));
            refused(in, "cheapest(0, " + no + ", 0)", Check.BAD, x -> x.cheapest(0, no, 0));
        }
        for (int no : new int[] {MIN, -1, 2, MAX}) {
            refused(in, "loopholes(" + no + ")", Check.BAD, x -> x.loopholes(no));
        }
        for (int no : new int[] {MIN, -1, 0, 4, MAX}) {
            refused(in, "group(" + no + ", -1)", Check.BAD, x -> x.group(no, -1));
        }
        for (int n = 1; n <= 3; n++) {
            int of = n;
            refused(in, "group(" + n + ", -2)", Check.BAD, x -> x.group(of, -2));
            refused(in, "group(" + n + ", " + n + ")", Check.BAD, x -> x.group(of, of));
        }
        refused(in, "restore of what was not kept", Check.STATE, x -> x.restore(1));
        int[][] noSuch = {{0, 2}, {0, 3}, {0, 4}, {0, 5}, {1, 3}, {1, 4}, {1, 5}, {2, 2}, {2, 4}, {2, 5}, {3, 1},
            {3, 2}, {3, 3}, {3, 5}, {4, 1}, {4, 2}, {4, 3}};
        for (int[] k : noSuch) {
            refused(in, "as(" + k[0] + ", " + k[1] + ")", Check.KIND, x -> x.as(k[0], k[1]));
        }
    }

    private static void refusedOfFull() {
        State in = RefusalsTest::full;
        refused(in, "the 101st byte", Check.FULL, x -> x.feed('f'));
        refused(in, "the 101st byte, 0", Check.FULL, x -> x.feed(0));
        refused(in, "the 101st byte: BAD ahead of FULL", Check.BAD, x -> x.feed(256));
        refused(in, "the 13th saying", Check.FULL, x -> x.say(0, 0, 0, 0));
        refused(in, "the 13th saying of the last prophet", Check.FULL, x -> x.say(4, 4, 4, 5));
        refused(in, "the 13th saying, no prophet: BAD ahead of FULL", Check.BAD, x -> x.say(5, 0, 0, 0));
        refused(in, "the 13th saying, no wording: BAD ahead of FULL", Check.BAD, x -> x.say(0, 0, 0, 1));
        refused(in, "year(64)", Check.BAD, x -> x.year(64));
        refused(in, "year(-1)", Check.BAD, x -> x.year(-1));
        refused(in, "drawn(0)", Check.BAD, x -> x.drawn(0));
        refused(in, "saying 12", Check.BAD, x -> x.saying(12, 0));
        refused(in, "set beyond 40", Check.PLACE, x -> x.set(7, 40, 1));
        refused(in, "copy beyond 40", Check.PLACE, x -> x.copy(0, 0, 3, 1, 40));
        refused(in, "copy of two lanes", Check.STORE, x -> x.copy(0, 0, 1, 0, 40));
        refused(in, "could beyond 40", Check.PLACE, x -> x.could(0, 36, 0));
    }

    private static void refusedOf999Years() {
        State in = RefusalsTest::after999;
        refused(in, "the 1000th year", Check.FULL, x -> x.year(0));
        refused(in, "the 1000th year, drawn", Check.FULL, x -> x.drawn(1));
        refused(in, "the 1000th year: BAD ahead of FULL", Check.BAD, x -> x.year(2));
        refused(in, "the 1000th year, drawn: BAD ahead of FULL", Check.BAD, x -> x.drawn(0));
    }

    // ---- what is not refused, and changes nothing either

    private static void askedAndForetoldChangeNothing() {
        CHECK.says("FORETOLD (nothing changes)");
        Call[] questions = {
            x -> x.fault(), x -> x.prophet(0, 0), x -> x.saying(0, 0), x -> x.odds(0, 0, 0), x -> x.fine(0, 1),
            x -> x.net(0, 1), x -> x.expected(0, 0), x -> x.expected(3, 1), x -> x.worst(0, 0), x -> x.worst(3, 1),
            x -> x.cheapest(0, 0, 0), x -> x.cheapest(3, 2, 3), x -> x.loopholes(0), x -> x.loopholes(1), x -> x.shut(),
            x -> x.group(1, -1), x -> x.group(2, 0), x -> x.group(3, 2), x -> x.could(1, 0, 0), x -> x.could(1, 35, 1),
            x -> x.could(1, 1, 2), x -> x.premium(0, 0), x -> x.premium(2, 1), x -> x.heeded(), x -> x.plain(0),
            x -> x.kind(0), x -> x.as(0, 1), x -> x.trace(0), x -> x.count(0), x -> x.status()};
        for (State state : new State[] {RefusalsTest::busy, RefusalsTest::full}) {
            for (int n = 0; n < questions.length; n++) {
                CHECK.holds("question " + n + " is answered", questions[n].on(state.made()) > Check.BAD);
                expectAlike("question " + n, state, new Call[] {questions[n]}, new Call[0]);
            }
        }
    }

    private static void actsUndoneLeaveNothing() {
        CHECK.says("each can be undone");
        Call[] acts = {x -> x.say(4, 4, 0, 2), x -> x.unsay(), x -> x.chance(0, 1), x -> x.chance(2, 19), x -> x.year(0),
            x -> x.year(7), x -> x.drawn(1), x -> x.drawn(999999)};
        for (int n = 0; n < acts.length; n++) {
            CHECK.holds("act " + n + " is one", acts[n].on(busy()) >= 0);
            expectAlike("act " + n, RefusalsTest::busy, new Call[] {acts[n], x -> x.undo()}, new Call[0]);
            Call[] withAYear = {acts[n], x -> x.year(3), x -> x.undo(), x -> x.undo()};
            expectAlike("act " + n + " and a year", RefusalsTest::busy, withAYear, new Call[0]);
            Call[] withASaying = {acts[n], x -> x.say(1, 1, 2, 2), x -> x.undo(), x -> x.undo()};
            expectAlike("act " + n + " and a saying", RefusalsTest::busy, withASaying, new Call[0]);
        }
    }
}
