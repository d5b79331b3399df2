/**
 * Each number of each call: the last that is as told and the first that is not, on both sides, and the farthest
 * numbers of all; for every count of EVENTS, PROPHETS and SAYINGS there can be.
 */
public final class RangesTest {
    private static final Check CHECK = new Check();
    private static final int MIN = Integer.MIN_VALUE, MAX = Integer.MAX_VALUE;

    private interface Ranged {
        long by(ProphetFines x, int number);
    }

    /** What every call of one range is made on, anew each time. */
    private static int events, prophets, sayings;

    public static void main(String[] args) {
        for (events = 1; events <= 6; events++) {
            for (prophets = 0; prophets <= 5; prophets++) {
                for (sayings = 0; sayings <= (prophets == 0 ? 0 : 12); sayings += 3) {
                    events();
                    prophets();
                    sayings();
                    sets();
                    whats();
                }
            }
        }
        events = 2;
        prophets = 2;
        sayings = 1;
        rows();
        others();
        CHECK.end();
    }

    private static ProphetFines made() {
        ProphetFines x = Check.told("f5,10;" + "v7;".repeat(events) + "wlaoi".replaceAll("(.)", "$19;").substring(0, 3 * prophets));
        for (int s = 0; s < sayings; s++) {
            x.say(s % prophets, s % 2, s % events, s % events);
        }
        return x;
    }

    /** BAD outside least .. most (none, if most is less), and not BAD at both ends of it. */
    private static void range(String name, int least, int most, Ranged call) {
        String of = " of " + events + " events, " + prophets + " prophets, " + sayings + " sayings";
        for (int no : new int[] {MIN, least - 1, most + 1, MAX}) {
            CHECK.due(name + " by " + no + of, call.by(made(), no), Check.BAD);
        }
        if (most >= least) {
            for (int number : new int[] {least, most}) {
                CHECK.holds(name + " by " + number + of + " is not BAD", call.by(made(), number) != Check.BAD);
            }
        }
    }

    private static void events() {
        CHECK.says("EVENTS 0 .. 5, 6 at most");
        range("chance of an event", 0, events - 1, (x, e) -> x.chance(e, 5));
        range("SURE", 0, events - 1, (x, e) -> x.odds(0, e, e));
        range("NOT", 0, events - 1, (x, e) -> x.odds(1, e, e));
        for (int form = 2; form <= 4; form++) {
            int of = form;
            range("e of form " + form, 0, events - 2, (x, e) -> x.odds(of, e, events - 1));
            range("f of form " + form, 1, events - 1, (x, f) -> x.odds(of, 0, f));
            range("f behind e of form " + form, 1, events - 1, (x, f) -> x.odds(of, f - 1, f));
        }
        if (prophets > 0) {
            range("cheapest of an event", 0, events - 1, (x, e) -> x.cheapest(0, e, 3));
            range("an event said for sure", 0, events - 1, (x, e) -> x.say(0, 0, e, e));
            range("f of BOTH said", 1, events - 1, (x, f) -> x.say(0, 2, 0, f));
        }
    }

    private static void prophets() {
        CHECK.says("PROPHETS 0 .. 4, 5 at most");
        range("say", 0, prophets - 1, (x, p) -> x.say(p, 0, 0, 0));
        range("prophet", 0, prophets - 1, (x, p) -> x.prophet(p, 0));
        range("net", 0, prophets - 1, (x, p) -> x.net(p, 0));
        range("expected", 0, prophets - 1, (x, p) -> x.expected(p, 0));
        range("worst", 0, prophets - 1, (x, p) -> x.worst(p, 0));
        range("cheapest", 0, prophets - 1, (x, p) -> x.cheapest(p, 0, 0));
        range("plain", 0, prophets - 1, (x, p) -> x.plain(p));
        range("kind", 0, prophets - 1, (x, p) -> x.kind(p));
        range("as", 0, prophets - 1, (x, p) -> x.as(p, 0));
        range("ask", 0, prophets - 1, (x, p) -> x.ask(p, 0));
    }

    private static void sayings() {
        CHECK.says("12 at most stand, in the order said");
        range("saying", 0, sayings - 1, (x, s) -> x.saying(s, 0));
        range("fine", 0, sayings - 1, (x, s) -> x.fine(s, 0));
        range("premium", 0, sayings - 1, (x, s) -> x.premium(s, 0));
    }

    private static void sets() {
        CHECK.says("a set of EVENTS (bits)");
        int most = (1 << events) - 1;
        range("year", 0, most, (x, set) -> x.year(set));
        if (prophets > 0) {
            range("net by a set", 0, most, (x, set) -> x.net(0, set));
        }
        if (sayings > 0) {
            range("fine by a set", 0, most, (x, set) -> x.fine(sayings - 1, set));
        }
    }

    private static void whats() {
        CHECK.says("BAD (a number is not as told; there is no such thing)");
        range("loopholes", 0, 1, (x, what) -> x.loopholes(what));
        range("count", 0, 6, (x, what) -> x.count(what));
        for (int n = 1; n <= 3; n++) {
            int of = n;
            range("k of group of " + n, -1, n - 1, (x, k) -> x.group(of, k));
        }
        range("n of group", 1, 3, (x, n) -> x.group(n, 0));
        if (prophets > 0) {
            range("what of a prophet", 0, 4, (x, what) -> x.prophet(0, what));
            range("what of expected", 0, 1, (x, what) -> x.expected(0, what));
            range("what of worst", 0, 1, (x, what) -> x.worst(0, what));
            range("what of cheapest", 0, 3, (x, what) -> x.cheapest(0, 0, what));
            range("kind that one is taken as", 0, 5, (x, kind) -> x.as(0, kind));
            range("what is asked", 0, 1, (x, what) -> x.ask(0, what));
        }
        if (sayings > 0) {
            range("what of a saying", 0, 4, (x, what) -> x.saying(0, what));
            range("what of premium", 0, 1, (x, what) -> x.premium(0, what));
        }
    }

    private static void rows() {
        CHECK.says("ROWS 0 .. 7");
        range("row", 0, 7, (x, row) -> x.row(row, 0, 1));
        range("set", 0, 7, (x, row) -> x.set(row, 0, 1));
        range("copy from", 0, 7, (x, row) -> x.copy(row, 0, 0, 0, 1));
        range("copy to", 0, 7, (x, row) -> x.copy(0, 0, row, 0, 1));
        range("drop", 0, 7, (x, row) -> x.drop(row));
        range("could", 0, 7, (x, row) -> x.could(row, 0, 0));
        range("lane", 0, 2, (x, lane) -> x.row(0, lane, 1));
        range("what of could", 0, 2, (x, what) -> x.could(0, 0, what));
        CHECK.due("40 items", made().row(0, 0, 40), 40);
        CHECK.due("41 items", made().row(0, 0, 41), Check.BAD);
        CHECK.due("0 items", made().row(0, 0, 0), 0);
        CHECK.due("-1 items", made().row(0, 0, -1), Check.SIZE);
    }

    private static void others() {
        CHECK.says("BAD (a number is not as told");
        range("byte", 0, 255, (x, letter) -> x.feed(letter));
        range("form with one event", 0, 1, (x, form) -> x.odds(form, 0, 0));
        range("form with two", 2, 4, (x, form) -> x.odds(form, 0, 1));
        range("form said with one event", 0, 1, (x, form) -> x.say(0, form, 0, 0));
        range("form said with two", 2, 4, (x, form) -> x.say(0, form, 0, 1));
        range("chance", 1, 19, (x, c) -> x.chance(0, c));
        range("seed", 1, 999999, (x, seed) -> x.drawn(seed));
        range("image", 0, 1, (x, k) -> x.image(k));
        range("restore", 0, 1, (x, k) -> x.restore(k));
    }
}
