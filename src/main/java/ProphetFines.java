import java.util.Arrays;

/** A republic in which being right ahead of time costs, by how unlikely it was. */
public final class ProphetFines {
    public static final int NONE = -1000000, BAD = -1000001, STATE = -1000002, FULL = -1000003;

    private static final int FINDING_BASE = -1000010, FAULT_BASE = -1000100;
    private static final int NULL = 1, PLACE = 2, KIND = 3, SIZE = 4, STORE = 5;

    private static final int MOST_EVENTS = 6, MOST_PROPHETS = 5, MOST_SAYINGS = 12;
    private static final int MOST_ACTS = 24, MOST_YEARS = 999, MOST_SEED = 999999;
    private static final int IMAGES = 2, MOST_GROUP = 3;

    private static final int PARTS = 20, WHOLE_ODDS = 400, MOST_CHANCE = PARTS - 1;

    private static final int SURE = 0, NOT = 1, BOTH = 2, EITHER = 3, ONE = 4;
    private static final int WORDING_CODES = 180, FORM_STEP = 36, EVENT_STEP = 6;

    private static final int LOVER = 2, ALMANAC = 3, ORACLE = 4, FOOL = 5;
    private static final int KINDS = 6, NO_KIND = -1;
    /** For each KIND the nearest one that it is, too. */
    private static final int[] WIDER_KIND = {-1, 0, 1, 1, 0, 4};
    /** The letters of SORTS, each at the place of its KIND. */
    private static final String SORTS = ".wlaoi";

    /** For each EVENT the sets in which it comes: bit s stands for set s. */
    private static final long[] SETS_WITH = {
        0xAAAAAAAAAAAAAAAAL, 0xCCCCCCCCCCCCCCCCL, 0xF0F0F0F0F0F0F0F0L,
        0xFF00FF00FF00FF00L, 0xFFFF0000FFFF0000L, 0xFFFFFFFF00000000L};

    private final Rows rows = new Rows();
    private final Tape tape = new Tape();
    private final Republic republic = new Republic();
    private final Republic draft = new Republic();
    private final Acts acts = new Acts();
    private final Republic[] images = new Republic[IMAGES];
    private final Ledger ledger = new Ledger(republic);
    private final Foresight foresight = new Foresight(republic, ledger);
    private final Asked asked = new Asked(republic);
    private int status = 0;

    public ProphetFines() {
        for (int k = 0; k < IMAGES; k++) {
            images[k] = new Republic();
        }
    }

    // ---- rows

    public int row(int row, int lane, int n) {
        if (!rows.isRow(row) || !rows.isLane(lane) || n > Rows.MOST_ITEMS) {
            return BAD;
        }
        if (n < 0) {
            return found(SIZE);
        }
        rows.make(row, lane, n);
        return unfound(n);
    }

    public int set(int row, int i, int v) {
        if (!rows.isRow(row)) {
            return BAD;
        }
        if (rows.isMissing(row)) {
            return found(NULL);
        }
        if (!rows.hasPlaces(row, i, 1)) {
            return found(PLACE);
        }
        return unfound(rows.put(row, i, v));
    }

    public int copy(int a, int i, int b, int j, int n) {
        if (!rows.isRow(a) || !rows.isRow(b)) {
            return BAD;
        }
        if (rows.isMissing(a) || rows.isMissing(b)) {
            return found(NULL);
        }
        if (rows.lane[a] != rows.lane[b]) {
            return found(STORE);
        }
        if (!rows.hasPlaces(a, i, n) || !rows.hasPlaces(b, j, n)) {
            return found(PLACE);
        }
        System.arraycopy(rows.items[a], i, rows.items[b], j, n);
        return unfound(n);
    }

    public int drop(int row) {
        if (!rows.isRow(row)) {
            return BAD;
        }
        if (rows.isMissing(row)) {
            return found(NULL);
        }
        int had = rows.size[row];
        rows.size[row] = Rows.MISSING;
        return unfound(had);
    }

    // ---- what is told

    public int feed(int letter) {
        if (letter < 0 || letter > 255) {
            return BAD;
        }
        if (tape.length == Tape.MOST_BYTES) {
            return FULL;
        }
        return tape.append(letter);
    }

    public int republic() {
        boolean isRead = tape.readInto(draft);
        tape.length = 0;
        if (!isRead) {
            return FAULT_BASE - tape.at;
        }
        republic.copyFrom(draft);
        acts.forgetAll();
        return republic.events;
    }

    public int fault() {
        return tape.fault;
    }

    public int undo() {
        if (acts.kept == 0) {
            return STATE;
        }
        republic.copyFrom(acts.takeLatest());
        return acts.kept;
    }

    // ---- what is said, what comes

    public int say(int prophet, int form, int e, int f) {
        if (!republic.hasProphet(prophet) || !republic.hasWording(form, e, f)) {
            return BAD;
        }
        if (republic.standing == MOST_SAYINGS) {
            return FULL;
        }
        acts.keep(republic);
        republic.addSaying(prophet, codeOf(form, e, f));
        return republic.standing;
    }

    public int unsay() {
        if (republic.standing == 0) {
            return STATE;
        }
        acts.keep(republic);
        republic.standing--;
        return republic.standing;
    }

    public int chance(int event, int c) {
        if (!republic.hasEvent(event) || c < 1 || c > MOST_CHANCE) {
            return BAD;
        }
        int was = republic.chance[event];
        acts.keep(republic);
        republic.chance[event] = c;
        return was;
    }

    public int year(int set) {
        if (!republic.isThere()) {
            return STATE;
        }
        if (!republic.hasSet(set)) {
            return BAD;
        }
        if (republic.years >= MOST_YEARS) {
            return FULL;
        }
        return come(set);
    }

    public int drawn(int seed) {
        if (!republic.isThere()) {
            return STATE;
        }
        if (seed < 1 || seed > MOST_SEED) {
            return BAD;
        }
        if (republic.years >= MOST_YEARS) {
            return FULL;
        }
        int set = republic.setBySeed(seed);
        come(set);
        return set;
    }

    public int prophet(int prophet, int what) {
        if (!republic.hasProphet(prophet)) {
            return BAD;
        }
        switch (what) {
            case 0: return republic.purse[prophet];
            case 1: return republic.right[prophet];
            case 2: return republic.wrong[prophet];
            case 3: return republic.heed[prophet];
            case 4: return republic.sayingsOf(prophet);
            default: return BAD;
        }
    }

    public int saying(int saying, int what) {
        if (!republic.hasSaying(saying)) {
            return BAD;
        }
        int code = republic.wording[saying];
        switch (what) {
            case 0: return republic.who[saying];
            case 1: return formOf(code);
            case 2: return firstEventOf(code);
            case 3: return secondEventOf(code);
            case 4: return republic.isNew(code, saying) ? 1 : 0;
            default: return BAD;
        }
    }

    public int odds(int form, int e, int f) {
        if (!republic.hasWording(form, e, f)) {
            return BAD;
        }
        return republic.oddsOf(codeOf(form, e, f));
    }

    public int fine(int saying, int set) {
        if (!republic.hasSaying(saying) || !republic.hasSet(set)) {
            return BAD;
        }
        ledger.open();
        return ledger.fineIn(saying, set);
    }

    public int net(int prophet, int set) {
        if (!republic.hasProphet(prophet) || !republic.hasSet(set)) {
            return BAD;
        }
        ledger.open();
        return ledger.netIn(prophet, set);
    }

    // ---- foretold

    public long expected(int prophet, int what) {
        if (!republic.hasProphet(prophet) || !isBelow(what, 2)) {
            return BAD;
        }
        return republic.fractionPart(foresight.expectedOf(prophet), what);
    }

    public int worst(int prophet, int what) {
        if (!republic.hasProphet(prophet) || !isBelow(what, 2)) {
            return BAD;
        }
        int set = foresight.worstSetOf(prophet);
        return what == 0 ? set : ledger.netIn(prophet, set);
    }

    public int cheapest(int prophet, int event, int what) {
        if (!republic.hasProphet(prophet) || !republic.hasEvent(event) || !isBelow(what, 4)) {
            return BAD;
        }
        int code = foresight.cheapestWarning(prophet, event);
        switch (what) {
            case 0: return formOf(code);
            case 1: return firstEventOf(code);
            case 2: return secondEventOf(code);
            default: return foresight.costIfSaid(prophet, code);
        }
    }

    public int loopholes(int what) {
        if (!republic.isThere()) {
            return STATE;
        }
        if (!isBelow(what, 2)) {
            return BAD;
        }
        return what == 0 ? foresight.countLoopholes() : foresight.firstLoophole();
    }

    public int shut() {
        if (!republic.isThere()) {
            return STATE;
        }
        return foresight.fewestToTakeAway();
    }

    public int group(int n, int k) {
        if (!republic.isThere()) {
            return STATE;
        }
        if (n < 1 || n > MOST_GROUP || k < -1 || k >= n) {
            return BAD;
        }
        if (!foresight.findGroup(n)) {
            return NONE;
        }
        return k == -1 ? foresight.groupSum : foresight.groupCode(k);
    }

    public int could(int row, int i, int what) {
        if (!republic.isThere()) {
            return STATE;
        }
        if (!rows.isRow(row) || !isBelow(what, 3)) {
            return BAD;
        }
        if (rows.isMissing(row)) {
            return found(NULL);
        }
        if (!rows.hasPlaces(row, i, republic.prophets)) {
            return found(PLACE);
        }
        if (rows.hasItemBelow(row, i, republic.prophets, -1)) {
            return BAD;
        }
        long sets = foresight.setsFined(rows.items[row], i);
        switch (what) {
            case 0: return unfound(Long.bitCount(sets));
            case 1: return unfound(foresight.leastSet(sets));
            default: return unfound(sets == 0 ? NONE : foresight.sureEvents(sets));
        }
    }

    public long premium(int saying, int what) {
        if (!republic.hasSaying(saying) || !isBelow(what, 2)) {
            return BAD;
        }
        return republic.fractionPart(foresight.premiumOf(saying), what);
    }

    public int heeded() {
        if (!republic.isThere()) {
            return STATE;
        }
        return republic.mostRight();
    }

    public int plain(int prophet) {
        if (!republic.hasProphet(prophet)) {
            return BAD;
        }
        return foresight.countPlain(prophet);
    }

    public int image(int k) {
        if (!isBelow(k, IMAGES)) {
            return BAD;
        }
        if (!republic.isThere()) {
            return STATE;
        }
        images[k].copyFrom(republic);
        return 1;
    }

    public int restore(int k) {
        if (!isBelow(k, IMAGES)) {
            return BAD;
        }
        if (!images[k].isThere()) {
            return STATE;
        }
        republic.copyFrom(images[k]);
        acts.forgetAll();
        return 1;
    }

    // ---- asked

    public int kind(int one) {
        return republic.hasProphet(one) ? republic.kind[one] : BAD;
    }

    public int as(int one, int kind) {
        if (!republic.hasProphet(one) || !isBelow(kind, KINDS)) {
            return BAD;
        }
        return isOfKind(republic.kind[one], kind) ? unfound(one) : found(KIND);
    }

    public int ask(int one, int what) {
        if (!republic.hasProphet(one) || !isBelow(what, 2)) {
            return BAD;
        }
        return asked.answer(one, what);
    }

    public int trace(int i) {
        return isBelow(i, asked.traced) ? asked.trace[i] : NONE;
    }

    public int count(int what) {
        switch (what) {
            case 0: return rows.countThere();
            case 1: return republic.events;
            case 2: return republic.prophets;
            case 3: return republic.standing;
            case 4: return republic.years;
            case 5: return acts.kept;
            case 6: return tape.length;
            default: return BAD;
        }
    }

    public int status() {
        return status;
    }

    private int found(int finding) {
        status = finding;
        return FINDING_BASE - finding;
    }

    private int unfound(int answer) {
        status = 0;
        return answer;
    }

    private int come(int set) {
        acts.keep(republic);
        ledger.open();
        return republic.endYear(ledger, set);
    }

    private static boolean isBelow(int number, int end) {
        return number >= 0 && number < end;
    }

    /** A WORDING as one number, so that numbers stand in the order of FORM, e, f. */
    private static int codeOf(int form, int e, int f) {
        return FORM_STEP * form + EVENT_STEP * e + f;
    }

    private static int formOf(int code) {
        return code / FORM_STEP;
    }

    private static int firstEventOf(int code) {
        return code / EVENT_STEP % EVENT_STEP;
    }

    private static int secondEventOf(int code) {
        return code % EVENT_STEP;
    }

    private static boolean isOfKind(int kind, int wider) {
        int at = kind;
        for (int step = 0; step < KINDS && at != NO_KIND && at != wider; step++) {
            at = WIDER_KIND[at];
        }
        return at == wider;
    }

    private static boolean isIn(long sets, int set) {
        return (sets >>> set & 1) == 1;
    }

    /** The ROWS, each with room for all ITEMS from the start, so that no call makes any. */
    private static final class Rows {
        static final int ROWS = 8, LANES = 3, MOST_ITEMS = 40, MISSING = -1;

        final int[][] items = new int[ROWS][MOST_ITEMS];
        final int[] lane = new int[ROWS];
        final int[] size = new int[ROWS];

        Rows() {
            Arrays.fill(size, MISSING);
        }

        boolean isRow(int row) {
            return isBelow(row, ROWS);
        }

        boolean isLane(int number) {
            return isBelow(number, LANES);
        }

        boolean isMissing(int row) {
            return size[row] == MISSING;
        }

        boolean hasPlaces(int row, int from, int n) {
            return from >= 0 && n >= 0 && from <= size[row] - n;
        }

        void make(int row, int ofLane, int n) {
            Arrays.fill(items[row], 0);
            lane[row] = ofLane;
            size[row] = n;
        }

        int put(int row, int i, int v) {
            items[row][i] = cut(lane[row], v);
            return items[row][i];
        }

        boolean hasItemBelow(int row, int from, int n, int bound) {
            for (int i = from; i < from + n; i++) {
                if (items[row][i] < bound) {
                    return true;
                }
            }
            return false;
        }

        int countThere() {
            int there = 0;
            for (int row = 0; row < ROWS; row++) {
                if (!isMissing(row)) {
                    there++;
                }
            }
            return there;
        }

        static int cut(int toLane, int v) {
            switch (toLane) {
                case 0: return (byte) v;
                case 1: return (short) v;
                default: return v;
            }
        }
    }

    /** THE TAPE and its reading; what is wrong on it is told by fault and at. */
    private static final class Tape {
        static final int MOST_BYTES = 100;
        static final int MISPLACED = 1, OUT_OF_RANGE = 2, NO_ROOM = 3;
        static final int MOST_FIGURES = 2, MOST_RATE = 20, MOST_FIRST = 50, MOST_HEED = 50;

        final int[] bytes = new int[MOST_BYTES];
        int length = 0;
        int at = 0;
        int number = 0;
        int fault = 0;

        int append(int letter) {
            bytes[length] = letter;
            length++;
            return length;
        }

        /**
         * Whether there was no FAULT; with one, at is left on its place. Nothing ever comes, or is said,
         * in what is read into, so that its YEAR, PURSES and records are 0 still.
         */
        boolean readInto(Republic to) {
            at = 0;
            to.prophets = 0;
            return readLaw(to) && readEvents(to) && readProphets(to);
        }

        private boolean readLaw(Republic to) {
            if (!take('f') || !takeNumber(1, MOST_RATE)) {
                return false;
            }
            to.rate = number;
            if (!take(',') || !takeNumber(0, MOST_FIRST)) {
                return false;
            }
            to.first = number;
            return take(';');
        }

        private boolean readEvents(Republic to) {
            for (int i = 0; i < MOST_EVENTS && (i == 0 || here() == 'v'); i++) {
                if (!take('v') || !takeNumber(1, MOST_CHANCE) || !take(';')) {
                    return false;
                }
                to.chance[i] = number;
                to.events = i + 1;
            }
            return here() != 'v' || wrong(NO_ROOM);
        }

        private boolean readProphets(Republic to) {
            for (int i = 0; i < MOST_PROPHETS && at < length; i++) {
                int kind = kindHere();
                if (kind == NO_KIND) {
                    return wrong(MISPLACED);
                }
                at++;
                if (!takeNumber(0, MOST_HEED) || !take(';')) {
                    return false;
                }
                to.kind[i] = kind;
                to.heed[i] = number;
                to.prophets = i + 1;
            }
            return at == length || wrong(kindHere() == NO_KIND ? MISPLACED : NO_ROOM);
        }

        /** The byte to be read now; -1, which is no byte, at the end. */
        private int here() {
            return at < length ? bytes[at] : -1;
        }

        private int kindHere() {
            for (int kind = 1; kind < KINDS; kind++) {
                if (SORTS.charAt(kind) == here()) {
                    return kind;
                }
            }
            return NO_KIND;
        }

        private boolean take(int letter) {
            if (here() != letter) {
                return wrong(MISPLACED);
            }
            at++;
            return true;
        }

        private boolean takeNumber(int least, int most) {
            int end = at;
            int value = 0;
            while (end < length && end <= at + MOST_FIGURES && isFigure(bytes[end])) {
                value = 10 * value + bytes[end] - '0';
                end++;
            }
            if (end == at || end > at + MOST_FIGURES) {
                return wrong(MISPLACED);
            }
            if (value < least || value > most) {
                return wrong(OUT_OF_RANGE);
            }
            at = end;
            number = value;
            return true;
        }

        private boolean wrong(int kindOfFault) {
            fault = kindOfFault;
            return false;
        }

        private static boolean isFigure(int letter) {
            return letter >= '0' && letter <= '9';
        }
    }

    /** All that an IMAGE keeps and an ACT changes. One without EVENTS is none. */
    private static final class Republic {
        int rate = 0;
        int first = 0;
        int events = 0;
        int prophets = 0;
        int standing = 0;
        int years = 0;
        final int[] chance = new int[MOST_EVENTS];
        final int[] kind = new int[MOST_PROPHETS];
        final int[] heed = new int[MOST_PROPHETS];
        final int[] purse = new int[MOST_PROPHETS];
        final int[] right = new int[MOST_PROPHETS];
        final int[] wrong = new int[MOST_PROPHETS];
        final int[] who = new int[MOST_SAYINGS];
        final int[] wording = new int[MOST_SAYINGS];

        void copyFrom(Republic other) {
            rate = other.rate;
            first = other.first;
            events = other.events;
            prophets = other.prophets;
            standing = other.standing;
            years = other.years;
            System.arraycopy(other.chance, 0, chance, 0, MOST_EVENTS);
            System.arraycopy(other.kind, 0, kind, 0, MOST_PROPHETS);
            System.arraycopy(other.heed, 0, heed, 0, MOST_PROPHETS);
            System.arraycopy(other.purse, 0, purse, 0, MOST_PROPHETS);
            System.arraycopy(other.right, 0, right, 0, MOST_PROPHETS);
            System.arraycopy(other.wrong, 0, wrong, 0, MOST_PROPHETS);
            System.arraycopy(other.who, 0, who, 0, MOST_SAYINGS);
            System.arraycopy(other.wording, 0, wording, 0, MOST_SAYINGS);
        }

        boolean isThere() {
            return events > 0;
        }

        boolean hasEvent(int event) {
            return isBelow(event, events);
        }

        boolean hasProphet(int prophet) {
            return isBelow(prophet, prophets);
        }

        boolean hasSaying(int saying) {
            return isBelow(saying, standing);
        }

        boolean hasSet(int set) {
            return isBelow(set, setCount());
        }

        boolean hasWording(int form, int e, int f) {
            if (form < SURE || form > ONE || !hasEvent(e) || !hasEvent(f)) {
                return false;
            }
            return form <= NOT ? e == f : e < f;
        }

        boolean hasCode(int code) {
            return hasWording(formOf(code), firstEventOf(code), secondEventOf(code));
        }

        int setCount() {
            return 1 << events;
        }

        /** All sets that can come; a shift by 64 would shift by none. */
        long allSets() {
            return -1L >>> (64 - setCount());
        }

        void addSaying(int prophet, int code) {
            who[standing] = prophet;
            wording[standing] = code;
            standing++;
        }

        int sayingsOf(int prophet) {
            int his = 0;
            for (int s = 0; s < standing; s++) {
                if (who[s] == prophet) {
                    his++;
                }
            }
            return his;
        }

        /** Whether none of the SAYINGS ahead of a place has a WORDING. */
        boolean isNew(int code, int place) {
            for (int s = 0; s < place; s++) {
                if (wording[s] == code) {
                    return false;
                }
            }
            return true;
        }

        int oddsOf(int code) {
            int e = chance[firstEventOf(code)];
            int f = chance[secondEventOf(code)];
            switch (formOf(code)) {
                case SURE: return PARTS * e;
                case NOT: return PARTS * (PARTS - e);
                case BOTH: return e * f;
                case EITHER: return WHOLE_ODDS - (PARTS - e) * (PARTS - f);
                default: return e * (PARTS - f) + f * (PARTS - e);
            }
        }

        /** The sets by which a WORDING is TRUE. */
        long setsOf(int code) {
            long e = SETS_WITH[firstEventOf(code)];
            long f = SETS_WITH[secondEventOf(code)];
            switch (formOf(code)) {
                case SURE: return e & allSets();
                case NOT: return ~e & allSets();
                case BOTH: return e & f & allSets();
                case EITHER: return (e | f) & allSets();
                default: return (e ^ f) & allSets();
            }
        }

        /** FINE as of a weatherman, FIRST aside. */
        int bareFine(int code) {
            return (WHOLE_ODDS - oddsOf(code)) * rate / 100;
        }

        /** FINE of a TRUE one behind so many others, if nothing spares an oracle. */
        int fullFine(int prophet, int code, int place) {
            int fine = bareFine(code) + (isNew(code, place) ? first : 0);
            switch (kind[prophet]) {
                case LOVER: return fine / 2;
                case ALMANAC: return 2 * fine;
                case FOOL: return 0;
                default: return fine;
            }
        }

        int gainOf(int prophet) {
            return kind[prophet] == FOOL ? 0 : heed[prophet];
        }

        int setBySeed(int seed) {
            long x = seed;
            int set = 0;
            for (int e = 0; e < events; e++) {
                x = x * 16807 % 2147483647;
                if (x % PARTS < chance[e]) {
                    set |= 1 << e;
                }
            }
            return set;
        }

        /** How many SAYINGS were TRUE in the YEAR that ends. */
        int endYear(Ledger ledger, int set) {
            for (int p = 0; p < prophets; p++) {
                purse[p] += ledger.netIn(p, set);
            }
            int allRight = 0;
            for (int s = 0; s < standing; s++) {
                if (isIn(ledger.trueSets[s], set)) {
                    right[who[s]]++;
                    allRight++;
                } else {
                    wrong[who[s]]++;
                }
            }
            standing = 0;
            years++;
            return allRight;
        }

        int mostRight() {
            int best = NONE;
            for (int p = 0; p < prophets; p++) {
                if (right[p] + wrong[p] > 0 && (best == NONE || isMoreRight(p, best))) {
                    best = p;
                }
            }
            return best;
        }

        private boolean isMoreRight(int one, int other) {
            return right[one] * (right[other] + wrong[other]) > right[other] * (right[one] + wrong[one]);
        }

        /** How often a set comes, of 20 for each EVENT, one times another. */
        long weightOf(int set) {
            long weight = 1;
            for (int e = 0; e < events; e++) {
                weight *= (set >> e & 1) == 1 ? chance[e] : PARTS - chance[e];
            }
            return weight;
        }

        /** A sum over weights as a fraction in lowest terms: above (0), below (1). */
        long fractionPart(long sum, int what) {
            long below = 1;
            for (int e = 0; e < events; e++) {
                below *= PARTS;
            }
            return (what == 0 ? sum : below) / commonDivisor(below, Math.abs(sum));
        }

        /** By Euclid, whose steps stay far under the bound; 1 at least, so that it can divide. */
        private static long commonDivisor(long a, long b) {
            for (int step = 0; step < 1000 && b != 0; step++) {
                long rest = a % b;
                a = b;
                b = rest;
            }
            return Math.max(a, 1);
        }
    }

    /** The REPUBLIC as it was ahead of each of the latest ACTS. */
    private static final class Acts {
        final Republic[] before = new Republic[MOST_ACTS];
        int oldest = 0;
        int kept = 0;

        Acts() {
            for (int i = 0; i < MOST_ACTS; i++) {
                before[i] = new Republic();
            }
        }

        void keep(Republic republic) {
            if (kept == MOST_ACTS) {
                oldest = (oldest + 1) % MOST_ACTS;
                kept--;
            }
            before[(oldest + kept) % MOST_ACTS].copyFrom(republic);
            kept++;
        }

        Republic takeLatest() {
            kept--;
            return before[(oldest + kept) % MOST_ACTS];
        }

        void forgetAll() {
            kept = 0;
        }
    }

    /** What each SAYING that stands brings, worked out once for all sets of EVENTS. */
    private static final class Ledger {
        final Republic republic;
        final long[] trueSets = new long[MOST_SAYINGS];
        final long[] finedSets = new long[MOST_SAYINGS];
        final int[] fine = new int[MOST_SAYINGS];
        final int[] gain = new int[MOST_SAYINGS];

        Ledger(Republic of) {
            republic = of;
        }

        void open() {
            for (int s = 0; s < republic.standing; s++) {
                int prophet = republic.who[s];
                int code = republic.wording[s];
                trueSets[s] = republic.setsOf(code);
                fine[s] = republic.fullFine(prophet, code, s);
                gain[s] = republic.gainOf(prophet);
            }
            for (int s = 0; s < republic.standing; s++) {
                int prophet = republic.who[s];
                finedSets[s] = republic.kind[prophet] == ORACLE ? setsOfAllHis(prophet) : trueSets[s];
            }
        }

        /** An oracle is fined only where no SAYING of his fails. */
        private long setsOfAllHis(int prophet) {
            long sets = republic.allSets();
            for (int s = 0; s < republic.standing; s++) {
                if (republic.who[s] == prophet) {
                    sets &= trueSets[s];
                }
            }
            return sets;
        }

        int fineIn(int saying, int set) {
            return isIn(finedSets[saying], set) ? fine[saying] : 0;
        }

        int finesIn(int prophet, int set) {
            int fines = 0;
            for (int s = 0; s < republic.standing; s++) {
                if (republic.who[s] == prophet) {
                    fines += fineIn(s, set);
                }
            }
            return fines;
        }

        int gainsIn(int prophet, int set) {
            int gains = 0;
            for (int s = 0; s < republic.standing; s++) {
                if (republic.who[s] == prophet && isIn(trueSets[s], set)) {
                    gains += gain[s];
                }
            }
            return gains;
        }

        int netIn(int prophet, int set) {
            return gainsIn(prophet, set) - finesIn(prophet, set);
        }
    }

    /** What can be told ahead of a YEAR; nothing of the REPUBLIC is changed here. */
    private static final class Foresight {
        /** NO_SUM is far above what three WORDINGS can cost. */
        static final int MOST_WORDINGS = 57, NO_SUM = 1000000;

        final Republic republic;
        final Ledger ledger;
        /** For each SAYING the others (bits) with which it makes a LOOPHOLE. */
        final int[] partners = new int[MOST_SAYINGS];

        final int[] codes = new int[MOST_WORDINGS];
        final int[] costs = new int[MOST_WORDINGS];
        final long[] sets = new long[MOST_WORDINGS];
        int wordings = 0;
        final int[] picked = new int[MOST_GROUP];
        final int[] group = new int[MOST_GROUP];
        int groupSize = 0;
        int groupSum = 0;

        Foresight(Republic of, Ledger by) {
            republic = of;
            ledger = by;
        }

        long expectedOf(int prophet) {
            ledger.open();
            long sum = 0;
            for (int set = 0; set < republic.setCount(); set++) {
                sum += republic.weightOf(set) * ledger.netIn(prophet, set);
            }
            return sum;
        }

        long premiumOf(int saying) {
            ledger.open();
            long sum = 0;
            for (int set = 0; set < republic.setCount(); set++) {
                sum += republic.weightOf(set) * ledger.fineIn(saying, set);
            }
            return sum;
        }

        int worstSetOf(int prophet) {
            ledger.open();
            int worst = 0;
            int least = ledger.netIn(prophet, worst);
            for (int set = 1; set < republic.setCount(); set++) {
                int net = ledger.netIn(prophet, set);
                if (net < least) {
                    worst = set;
                    least = net;
                }
            }
            return worst;
        }

        int countPlain(int prophet) {
            ledger.open();
            int plain = 0;
            for (int set = 0; set < republic.setCount(); set++) {
                if (ledger.finesIn(prophet, set) == 0 && ledger.gainsIn(prophet, set) == 0) {
                    plain++;
                }
            }
            return plain;
        }

        /** The EVENT itself, said for SURE, is looked at first: there is always one. */
        int cheapestWarning(int prophet, int event) {
            long comes = SETS_WITH[event] & republic.allSets();
            int best = codeOf(SURE, event, event);
            int least = costIfSaid(prophet, best);
            for (int code = best + 1; code < WORDING_CODES; code++) {
                if (republic.hasCode(code) && (comes & ~republic.setsOf(code)) == 0
                        && costIfSaid(prophet, code) < least) {
                    best = code;
                    least = costIfSaid(prophet, code);
                }
            }
            return best;
        }

        int costIfSaid(int prophet, int code) {
            return republic.oddsOf(code) * republic.fullFine(prophet, code, republic.standing);
        }

        private boolean isLoophole(int s, int t) {
            return (ledger.trueSets[s] | ledger.trueSets[t]) == republic.allSets();
        }

        int countLoopholes() {
            ledger.open();
            int holes = 0;
            for (int s = 0; s < republic.standing; s++) {
                for (int t = s + 1; t < republic.standing; t++) {
                    if (isLoophole(s, t)) {
                        holes++;
                    }
                }
            }
            return holes;
        }

        int firstLoophole() {
            ledger.open();
            for (int s = 0; s < republic.standing; s++) {
                for (int t = s + 1; t < republic.standing; t++) {
                    if (isLoophole(s, t)) {
                        return MOST_SAYINGS * s + t;
                    }
                }
            }
            return NONE;
        }

        int fewestToTakeAway() {
            pairUp();
            int best = (1 << republic.standing) - 1;
            for (int away = 0; away < 1 << republic.standing; away++) {
                if (Integer.bitCount(away) < Integer.bitCount(best) && leavesNoLoophole(away)) {
                    best = away;
                }
            }
            return best;
        }

        private void pairUp() {
            ledger.open();
            for (int s = 0; s < republic.standing; s++) {
                partners[s] = 0;
                for (int t = 0; t < republic.standing; t++) {
                    if (t != s && isLoophole(s, t)) {
                        partners[s] |= 1 << t;
                    }
                }
            }
        }

        private boolean leavesNoLoophole(int away) {
            for (int s = 0; s < republic.standing; s++) {
                if ((away >> s & 1) == 0 && (partners[s] & ~away) != 0) {
                    return false;
                }
            }
            return true;
        }

        /** Whether there is a GROUP; it is left in group and groupSum. */
        boolean findGroup(int n) {
            listWordings();
            groupSize = n;
            groupSum = NO_SUM;
            pickFrom(0, 0, republic.allSets(), 0);
            return groupSum < NO_SUM;
        }

        int groupCode(int k) {
            return codes[group[k]];
        }

        private void listWordings() {
            wordings = 0;
            for (int code = 0; code < WORDING_CODES && wordings < MOST_WORDINGS; code++) {
                if (republic.hasCode(code)) {
                    codes[wordings] = code;
                    costs[wordings] = republic.oddsOf(code) * republic.bareFine(code);
                    sets[wordings] = republic.setsOf(code);
                    wordings++;
                }
            }
        }

        /** Groups come in their order, so that only a lesser sum takes the place of the first. */
        private void pickFrom(int depth, int from, long missing, int sum) {
            if (depth >= groupSize) {
                return;
            }
            for (int w = from; w < wordings; w++) {
                int sumWith = sum + costs[w];
                if (sumWith < groupSum) {
                    picked[depth] = w;
                    long missingYet = missing & ~sets[w];
                    if (depth + 1 == groupSize && missingYet == 0) {
                        groupSum = sumWith;
                        System.arraycopy(picked, 0, group, 0, groupSize);
                    } else if (depth + 1 < groupSize) {
                        pickFrom(depth + 1, w, missingYet, sumWith);
                    }
                }
            }
        }

        /** The sets by which each PROPHET is fined as ITEMS tell, -1 telling nothing. */
        long setsFined(int[] items, int from) {
            ledger.open();
            long fitting = 0;
            for (int set = 0; set < republic.setCount(); set++) {
                if (areFinedSo(items, from, set)) {
                    fitting |= 1L << set;
                }
            }
            return fitting;
        }

        private boolean areFinedSo(int[] items, int from, int set) {
            for (int p = 0; p < republic.prophets; p++) {
                int told = items[from + p];
                if (told != -1 && told != ledger.finesIn(p, set)) {
                    return false;
                }
            }
            return true;
        }

        int leastSet(long some) {
            for (int set = 0; set < republic.setCount(); set++) {
                if (isIn(some, set)) {
                    return set;
                }
            }
            return NONE;
        }

        /** The EVENTS that come in all of some sets, or in none of them. */
        int sureEvents(long some) {
            int sure = 0;
            for (int e = 0; e < republic.events; e++) {
                long with = some & SETS_WITH[e];
                if (with == 0 || with == some) {
                    sure |= 1 << e;
                }
            }
            return sure;
        }
    }

    /** ASKS of one PROPHET, and THE TRACE of the BODIES that began. */
    private static final class Asked {
        static final int SIZE_ASKED = 0, MARK_ASKED = 1;
        static final int MOST_TRACED = 16, MOST_DEEP = 16, UNTOLD = 0;
        /** The BODY told for each KIND; that of KIND 0 is the one that is lent, so one is always found. */
        private static final int[] SIZE_BODIES = {10, 11, 12, 0, 13, 14};
        private static final int[] MARK_BODIES = {20, 21, 24, 22, 23, 0};

        final Republic republic;
        final int[] trace = new int[MOST_TRACED];
        int traced = 0;
        int one = 0;

        Asked(Republic of) {
            republic = of;
        }

        int answer(int prophet, int what) {
            one = prophet;
            traced = 0;
            return anew(what, 0);
        }

        private int anew(int what, int depth) {
            int[] bodies = what == SIZE_ASKED ? SIZE_BODIES : MARK_BODIES;
            int kind = republic.kind[one];
            for (int step = 0; step < KINDS && bodies[kind] == UNTOLD; step++) {
                kind = WIDER_KIND[kind];
            }
            return begin(bodies[kind], depth);
        }

        private int begin(int body, int depth) {
            if (depth == MOST_DEEP) {
                return 0;
            }
            leave(body);
            int deeper = depth + 1;
            switch (body) {
                case 10: return republic.purse[one];
                case 11: return begin(10, deeper) + anew(MARK_ASKED, deeper);
                case 12: return -begin(11, deeper);
                case 13: return begin(10, deeper) - 100;
                case 14: return 2 * begin(13, deeper);
                case 20: return one;
                case 21: return begin(20, deeper) + republic.sayingsOf(one);
                case 22: return begin(21, deeper) - 1000;
                case 23: return begin(20, deeper) - anew(SIZE_ASKED, deeper);
                case 24: return 2 * begin(21, deeper);
                default: return 0;
            }
        }

        private void leave(int body) {
            if (traced < MOST_TRACED) {
                trace[traced] = body;
                traced++;
            }
        }
    }
}
