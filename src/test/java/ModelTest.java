import java.math.BigInteger;
import java.util.ArrayList;
import java.util.Arrays;
import java.util.List;
import java.util.Random;
import java.util.regex.Matcher;
import java.util.regex.Pattern;

/**
 * Long runs of calls, drawn by fixed seeds, on an object and on a plain model of the document that counts
 * everything out set by set; every answer of the two is compared.
 */
public final class ModelTest {
    private static final int RUNS = 400, CALLS = 480;

    public static void main(String[] args) {
        Check check = new Check();
        for (int seed = 0; seed < RUNS; seed++) {
            new Run(check, seed).go();
        }
        check.end();
    }

    private static final class Wording {
        final int form, e, f;

        Wording(int form, int e, int f) {
            this.form = form;
            this.e = e;
            this.f = f;
        }

        boolean isTrue(int set) {
            boolean hasE = (set & 1 << e) != 0;
            boolean hasF = (set & 1 << f) != 0;
            switch (form) {
                case 0: return hasE;
                case 1: return !hasE;
                case 2: return hasE && hasF;
                case 3: return hasE || hasF;
                default: return hasE != hasF;
            }
        }

        boolean isSame(Wording other) {
            return form == other.form && e == other.e && f == other.f;
        }
    }

    private static final class Saying {
        final int who;
        final Wording wording;

        Saying(int who, Wording wording) {
            this.who = who;
            this.wording = wording;
        }
    }

    /** The state that acts change and images keep. */
    private static final class World {
        int rate, first, years;
        int[] chance = {};
        int[] kind = {};
        int[] heed = {};
        int[] purse = {};
        int[] right = {};
        int[] wrong = {};
        List<Saying> said = new ArrayList<>();

        World copy() {
            World w = new World();
            w.rate = rate;
            w.first = first;
            w.years = years;
            w.chance = chance.clone();
            w.kind = kind.clone();
            w.heed = heed.clone();
            w.purse = purse.clone();
            w.right = right.clone();
            w.wrong = wrong.clone();
            w.said = new ArrayList<>(said);
            return w;
        }

        int sets() {
            return 1 << chance.length;
        }

        List<Wording> wordings() {
            List<Wording> all = new ArrayList<>();
            for (int form = 0; form < 5; form++) {
                for (int e = 0; e < chance.length; e++) {
                    for (int f = form < 2 ? e : e + 1; f < (form < 2 ? e + 1 : chance.length); f++) {
                        all.add(new Wording(form, e, f));
                    }
                }
            }
            return all;
        }

        long weight(int set) {
            long weight = 1;
            for (int e = 0; e < chance.length; e++) {
                weight *= (set & 1 << e) != 0 ? chance[e] : 20 - chance[e];
            }
            return weight;
        }

        /** Counted out over what two events do, not by a formula for each form. */
        int odds(Wording w) {
            int odds = 0;
            for (int a = 0; a < 20; a++) {
                for (int b = 0; b < 20; b++) {
                    int set = (a < chance[w.e] ? 1 << w.e : 0) | (w.f != w.e && b < chance[w.f] ? 1 << w.f : 0);
                    odds += w.isTrue(set) ? 1 : 0;
                }
            }
            return odds;
        }

        int fineByKind(int kindOfHim, Wording w, boolean isFirst) {
            int fine = (400 - odds(w)) * rate / 100 + (isFirst ? first : 0);
            return kindOfHim == 2 ? fine / 2 : kindOfHim == 3 ? fine * 2 : kindOfHim == 5 ? 0 : fine;
        }

        boolean isFirst(Wording w, int place) {
            return said.subList(0, place).stream().noneMatch(s -> s.wording.isSame(w));
        }

        int fine(int s, int set) {
            Saying saying = said.get(s);
            if (!saying.wording.isTrue(set)) {
                return 0;
            }
            if (kind[saying.who] == 4 && said.stream().anyMatch(o -> o.who == saying.who && !o.wording.isTrue(set))) {
                return 0;
            }
            return fineByKind(kind[saying.who], saying.wording, isFirst(saying.wording, s));
        }

        int fines(int p, int set) {
            int sum = 0;
            for (int s = 0; s < said.size(); s++) {
                sum += said.get(s).who == p ? fine(s, set) : 0;
            }
            return sum;
        }

        int gains(int p, int set) {
            int many = (int) said.stream().filter(s -> s.who == p && s.wording.isTrue(set)).count();
            return kind[p] == 5 ? 0 : many * heed[p];
        }

        int net(int p, int set) {
            return gains(p, set) - fines(p, set);
        }

        int his(int p) {
            return (int) said.stream().filter(s -> s.who == p).count();
        }
    }

    /** The document, read as plainly as can be. */
    private static final class Model {
        World world = new World();
        List<World> acts = new ArrayList<>();
        World[] images = new World[2];
        int[][] rows = new int[8][];
        int[] lanes = new int[8];
        StringBuilder tape = new StringBuilder();
        List<Integer> trace = new ArrayList<>();
        int fault, status;

        boolean isNone() {
            return world.chance.length == 0;
        }

        boolean in(int n, int end) {
            return n >= 0 && n < end;
        }

        boolean isProphet(int p) {
            return in(p, world.kind.length);
        }

        boolean isWording(int form, int e, int f) {
            return world.wordings().stream().anyMatch(w -> w.isSame(new Wording(form, e, f)));
        }

        int found(int finding) {
            status = finding;
            return -1000010 - finding;
        }

        int well(int answer) {
            status = 0;
            return answer;
        }

        void act() {
            acts.add(world.copy());
            if (acts.size() > 24) {
                acts.remove(0);
            }
        }

        int row(int row, int lane, int n) {
            if (!in(row, 8) || !in(lane, 3) || n > 40) {
                return Check.BAD;
            }
            if (n < 0) {
                return found(4);
            }
            rows[row] = new int[n];
            lanes[row] = lane;
            return well(n);
        }

        int set(int row, int i, int v) {
            if (!in(row, 8)) {
                return Check.BAD;
            }
            if (rows[row] == null) {
                return found(1);
            }
            if (!in(i, rows[row].length)) {
                return found(2);
            }
            int bits = 32 - (8 << lanes[row]);
            rows[row][i] = v << bits >> bits;
            return well(rows[row][i]);
        }

        int copy(int a, int i, int b, int j, int n) {
            if (!in(a, 8) || !in(b, 8)) {
                return Check.BAD;
            }
            if (rows[a] == null || rows[b] == null) {
                return found(1);
            }
            if (lanes[a] != lanes[b]) {
                return found(5);
            }
            if (i < 0 || j < 0 || n < 0 || (long) i + n > rows[a].length || (long) j + n > rows[b].length) {
                return found(2);
            }
            int[] ahead = rows[a].clone();
            for (int k = 0; k < n; k++) {
                rows[b][j + k] = ahead[i + k];
            }
            return well(n);
        }

        int drop(int row) {
            if (!in(row, 8)) {
                return Check.BAD;
            }
            if (rows[row] == null) {
                return found(1);
            }
            int had = rows[row].length;
            rows[row] = null;
            return well(had);
        }

        int feed(int letter) {
            if (!in(letter, 256)) {
                return Check.BAD;
            }
            if (tape.length() == 100) {
                return Check.FULL;
            }
            tape.append((char) letter);
            return tape.length();
        }

        int republic() {
            String text = tape.toString();
            tape.setLength(0);
            Grammar g = new Grammar(text);
            if (g.fault != 0) {
                fault = g.fault;
                return -1000100 - g.place;
            }
            world = g.world;
            acts.clear();
            return world.chance.length;
        }

        int undo() {
            if (acts.isEmpty()) {
                return Check.STATE;
            }
            world = acts.remove(acts.size() - 1);
            return acts.size();
        }

        int say(int p, int form, int e, int f) {
            if (!isProphet(p) || !isWording(form, e, f)) {
                return Check.BAD;
            }
            if (world.said.size() == 12) {
                return Check.FULL;
            }
            act();
            world.said.add(new Saying(p, new Wording(form, e, f)));
            return world.said.size();
        }

        int unsay() {
            if (world.said.isEmpty()) {
                return Check.STATE;
            }
            act();
            world.said.remove(world.said.size() - 1);
            return world.said.size();
        }

        int chance(int event, int c) {
            if (!in(event, world.chance.length) || c < 1 || c > 19) {
                return Check.BAD;
            }
            act();
            int was = world.chance[event];
            world.chance[event] = c;
            return was;
        }

        int year(int set) {
            if (isNone()) {
                return Check.STATE;
            }
            if (!in(set, world.sets())) {
                return Check.BAD;
            }
            act();
            World before = acts.get(acts.size() - 1);
            int many = 0;
            for (Saying s : before.said) {
                many += s.wording.isTrue(set) ? 1 : 0;
                world.right[s.who] += s.wording.isTrue(set) ? 1 : 0;
                world.wrong[s.who] += s.wording.isTrue(set) ? 0 : 1;
            }
            for (int p = 0; p < world.kind.length; p++) {
                world.purse[p] += before.net(p, set);
            }
            world.said.clear();
            world.years++;
            return many;
        }

        int drawn(int seed) {
            if (isNone()) {
                return Check.STATE;
            }
            if (seed < 1 || seed > 999999) {
                return Check.BAD;
            }
            BigInteger x = BigInteger.valueOf(seed);
            int set = 0;
            for (int e = 0; e < world.chance.length; e++) {
                x = x.multiply(BigInteger.valueOf(16807)).mod(BigInteger.valueOf(2147483647));
                set += x.mod(BigInteger.valueOf(20)).intValue() < world.chance[e] ? 1 << e : 0;
            }
            year(set);
            return set;
        }

        int prophet(int p, int what) {
            if (!isProphet(p) || !in(what, 5)) {
                return Check.BAD;
            }
            return new int[] {world.purse[p], world.right[p], world.wrong[p], world.heed[p], world.his(p)}[what];
        }

        int saying(int s, int what) {
            if (!in(s, world.said.size()) || !in(what, 5)) {
                return Check.BAD;
            }
            Wording w = world.said.get(s).wording;
            return new int[] {world.said.get(s).who, w.form, w.e, w.f, world.isFirst(w, s) ? 1 : 0}[what];
        }

        int odds(int form, int e, int f) {
            return isWording(form, e, f) ? world.odds(new Wording(form, e, f)) : Check.BAD;
        }

        int fine(int s, int set) {
            return in(s, world.said.size()) && in(set, world.sets()) ? world.fine(s, set) : Check.BAD;
        }

        int net(int p, int set) {
            return isProphet(p) && in(set, world.sets()) ? world.net(p, set) : Check.BAD;
        }

        long fraction(BigInteger sum, int what) {
            BigInteger below = BigInteger.valueOf(20).pow(world.chance.length);
            BigInteger common = sum.gcd(below);
            return (what == 0 ? sum : below).divide(common).longValueExact();
        }

        long expected(int p, int what) {
            if (!isProphet(p) || !in(what, 2)) {
                return Check.BAD;
            }
            BigInteger sum = BigInteger.ZERO;
            for (int set = 0; set < world.sets(); set++) {
                sum = sum.add(BigInteger.valueOf(world.weight(set)).multiply(BigInteger.valueOf(world.net(p, set))));
            }
            return fraction(sum, what);
        }

        long premium(int s, int what) {
            if (!in(s, world.said.size()) || !in(what, 2)) {
                return Check.BAD;
            }
            BigInteger sum = BigInteger.ZERO;
            for (int set = 0; set < world.sets(); set++) {
                sum = sum.add(BigInteger.valueOf(world.weight(set)).multiply(BigInteger.valueOf(world.fine(s, set))));
            }
            return fraction(sum, what);
        }

        int worst(int p, int what) {
            if (!isProphet(p) || !in(what, 2)) {
                return Check.BAD;
            }
            int worst = 0;
            for (int set = world.sets() - 1; set >= 0; set--) {
                worst = world.net(p, set) <= world.net(p, worst) ? set : worst;
            }
            return what == 0 ? worst : world.net(p, worst);
        }

        int cheapest(int p, int event, int what) {
            if (!isProphet(p) || !in(event, world.chance.length) || !in(what, 4)) {
                return Check.BAD;
            }
            Wording best = null;
            int least = 0;
            for (Wording w : world.wordings()) {
                boolean warns = true;
                for (int set = 0; set < world.sets(); set++) {
                    warns &= (set & 1 << event) == 0 || w.isTrue(set);
                }
                int cost = world.odds(w) * world.fineByKind(world.kind[p], w, world.isFirst(w, world.said.size()));
                if (warns && (best == null || cost < least)) {
                    best = w;
                    least = cost;
                }
            }
            return new int[] {best.form, best.e, best.f, least}[what];
        }

        boolean isLoophole(int s, int t) {
            for (int set = 0; set < world.sets(); set++) {
                if (!world.said.get(s).wording.isTrue(set) && !world.said.get(t).wording.isTrue(set)) {
                    return false;
                }
            }
            return true;
        }

        List<int[]> holes() {
            List<int[]> pairs = new ArrayList<>();
            for (int s = 0; s < world.said.size(); s++) {
                for (int t = s + 1; t < world.said.size(); t++) {
                    if (isLoophole(s, t)) {
                        pairs.add(new int[] {s, t});
                    }
                }
            }
            return pairs;
        }

        int loopholes(int what) {
            if (isNone()) {
                return Check.STATE;
            }
            if (!in(what, 2)) {
                return Check.BAD;
            }
            List<int[]> pairs = holes();
            return what == 0 ? pairs.size() : pairs.isEmpty() ? Check.NONE : 12 * pairs.get(0)[0] + pairs.get(0)[1];
        }

        int shut() {
            if (isNone()) {
                return Check.STATE;
            }
            List<int[]> pairs = holes();
            for (int many = 0; many <= 12; many++) {
                for (int away = 0; away < 4096; away++) {
                    int bits = away;
                    if (Integer.bitCount(away) == many
                            && pairs.stream().allMatch(h -> (bits & (1 << h[0] | 1 << h[1])) != 0)) {
                        return away;
                    }
                }
            }
            return -1;
        }

        /** Three loops for any n: in a group of fewer the last one is repeated, at no cost. */
        int group(int n, int k) {
            if (isNone()) {
                return Check.STATE;
            }
            if (n < 1 || n > 3 || k < -1 || k >= n) {
                return Check.BAD;
            }
            List<Wording> all = world.wordings();
            int many = all.size();
            long[] sets = new long[many];
            int[] cost = new int[many];
            for (int w = 0; w < many; w++) {
                for (int set = 0; set < world.sets(); set++) {
                    sets[w] |= all.get(w).isTrue(set) ? 1L << set : 0;
                }
                cost[w] = world.odds(all.get(w)) * ((400 - world.odds(all.get(w))) * world.rate / 100);
            }
            long every = 0;
            for (int set = 0; set < world.sets(); set++) {
                every |= 1L << set;
            }
            int[] best = null;
            int least = 0;
            for (int a = 0; a < many; a++) {
                for (int b = a; b < (n < 2 ? a + 1 : many); b++) {
                    for (int c = b; c < (n < 3 ? b + 1 : many); c++) {
                        int sum = cost[a] + (n > 1 ? cost[b] : 0) + (n > 2 ? cost[c] : 0);
                        if ((sets[a] | sets[b] | sets[c]) == every && (best == null || sum < least)) {
                            best = new int[] {a, b, c};
                            least = sum;
                        }
                    }
                }
            }
            if (best == null) {
                return Check.NONE;
            }
            if (k == -1) {
                return least;
            }
            Wording w = all.get(best[k]);
            return 36 * w.form + 6 * w.e + w.f;
        }

        int could(int row, int i, int what) {
            if (isNone()) {
                return Check.STATE;
            }
            if (!in(row, 8) || !in(what, 3)) {
                return Check.BAD;
            }
            if (rows[row] == null) {
                return found(1);
            }
            int many = world.kind.length;
            if (i < 0 || (long) i + many > rows[row].length) {
                return found(2);
            }
            int[] items = Arrays.copyOfRange(rows[row], i, i + many);
            if (Arrays.stream(items).anyMatch(v -> v < -1)) {
                return Check.BAD;
            }
            List<Integer> fitting = new ArrayList<>();
            for (int set = 0; set < world.sets(); set++) {
                boolean fits = true;
                for (int p = 0; p < many; p++) {
                    fits &= items[p] == -1 || items[p] == world.fines(p, set);
                }
                if (fits) {
                    fitting.add(set);
                }
            }
            if (what == 0 || fitting.isEmpty()) {
                return well(what == 0 ? fitting.size() : Check.NONE);
            }
            int inAll = world.sets() - 1;
            int inSome = 0;
            for (int set : fitting) {
                inAll &= set;
                inSome |= set;
            }
            return well(what == 1 ? fitting.get(0) : inAll | world.sets() - 1 & ~inSome);
        }

        int heeded() {
            if (isNone()) {
                return Check.STATE;
            }
            int best = Check.NONE;
            double most = -1;
            for (int p = 0; p < world.kind.length; p++) {
                int all = world.right[p] + world.wrong[p];
                if (all > 0 && (double) world.right[p] / all > most) {
                    best = p;
                    most = (double) world.right[p] / all;
                }
            }
            return best;
        }

        int plain(int p) {
            if (!isProphet(p)) {
                return Check.BAD;
            }
            int many = 0;
            for (int set = 0; set < world.sets(); set++) {
                many += world.fines(p, set) == 0 && world.gains(p, set) == 0 ? 1 : 0;
            }
            return many;
        }

        int image(int k) {
            if (!in(k, 2)) {
                return Check.BAD;
            }
            if (isNone()) {
                return Check.STATE;
            }
            images[k] = world.copy();
            return 1;
        }

        int restore(int k) {
            if (!in(k, 2)) {
                return Check.BAD;
            }
            if (images[k] == null) {
                return Check.STATE;
            }
            world = images[k].copy();
            acts.clear();
            return 1;
        }

        int kind(int p) {
            return isProphet(p) ? world.kind[p] : Check.BAD;
        }

        int as(int p, int kind) {
            if (!isProphet(p) || !in(kind, 6)) {
                return Check.BAD;
            }
            String[] kindsOf = {"0", "01", "012", "013", "04", "045"};
            return kindsOf[world.kind[p]].indexOf('0' + kind) >= 0 ? well(p) : found(3);
        }

        int ask(int p, int what) {
            if (!isProphet(p) || !in(what, 2)) {
                return Check.BAD;
            }
            trace.clear();
            Teller t = Teller.of(this, p);
            return what == 0 ? t.size() : t.mark();
        }

        int trace(int i) {
            return in(i, trace.size()) ? trace.get(i) : Check.NONE;
        }

        int count(int what) {
            if (!in(what, 7)) {
                return Check.BAD;
            }
            int there = (int) Arrays.stream(rows).filter(r -> r != null).count();
            return new int[] {there, world.chance.length, world.kind.length, world.said.size(), world.years,
                acts.size(), tape.length()}[what];
        }
    }

    /** Kinds as classes, where the machine itself finds the nearest body. */
    private static class Teller {
        final Model model;
        final int number;

        Teller(Model model, int number) {
            this.model = model;
            this.number = number;
        }

        static Teller of(Model m, int p) {
            switch (m.world.kind[p]) {
                case 1: return new Weatherman(m, p);
                case 2: return new Lover(m, p);
                case 3: return new Almanac(m, p);
                case 4: return new Oracle(m, p);
                default: return new Fool(m, p);
            }
        }

        void begin(int body) {
            if (model.trace.size() < 16) {
                model.trace.add(body);
            }
        }

        int size() {
            begin(10);
            return model.world.purse[number];
        }

        int mark() {
            begin(20);
            return number;
        }
    }

    private static class Weatherman extends Teller {
        Weatherman(Model m, int p) {
            super(m, p);
        }

        @Override int size() {
            begin(11);
            int size = super.size();
            return size + mark();
        }

        @Override int mark() {
            begin(21);
            return super.mark() + model.world.his(number);
        }
    }

    private static final class Lover extends Weatherman {
        Lover(Model m, int p) {
            super(m, p);
        }

        @Override int size() {
            begin(12);
            return 0 - super.size();
        }

        @Override int mark() {
            begin(24);
            return super.mark() * 2;
        }
    }

    private static final class Almanac extends Weatherman {
        Almanac(Model m, int p) {
            super(m, p);
        }

        @Override int mark() {
            begin(22);
            return super.mark() - 1000;
        }
    }

    private static class Oracle extends Teller {
        Oracle(Model m, int p) {
            super(m, p);
        }

        @Override int size() {
            begin(13);
            return super.size() - 100;
        }

        @Override int mark() {
            begin(23);
            int mark = super.mark();
            return mark - size();
        }
    }

    private static final class Fool extends Oracle {
        Fool(Model m, int p) {
            super(m, p);
        }

        @Override int size() {
            begin(14);
            return super.size() * 2;
        }
    }

    /** The text cut into tokens first, then walked by a table of what may follow what. */
    private static final class Grammar {
        final World world = new World();
        int fault = 0;
        int place = 0;

        Grammar(String text) {
            List<String> tokens = new ArrayList<>();
            List<Integer> places = new ArrayList<>();
            Matcher m = Pattern.compile("[0-9]+|.", Pattern.DOTALL).matcher(text);
            while (m.find()) {
                tokens.add(m.group());
                places.add(m.start());
            }
            tokens.add("");
            places.add(text.length());
            walk(tokens, places);
        }

        private void walk(List<String> tokens, List<Integer> places) {
            String state = "law";
            List<Integer> chances = new ArrayList<>();
            List<Integer> kinds = new ArrayList<>();
            List<Integer> heeds = new ArrayList<>();
            for (int t = 0; t < tokens.size(); t++) {
                String token = tokens.get(t);
                place = places.get(t);
                boolean isNumber = token.matches("[0-9]{1,2}");
                int n = isNumber ? Integer.parseInt(token) : -1;
                int kind = token.isEmpty() ? -1 : ".wlaoi".indexOf(token);
                String next = null;
                switch (state) {
                    case "law": next = token.equals("f") ? "rate" : null; break;
                    case "rate": next = isNumber ? "," : null; world.rate = n; break;
                    case ",": next = token.equals(",") ? "first" : null; break;
                    case "first": next = isNumber ? ";law" : null; world.first = n; break;
                    case ";law": next = token.equals(";") ? "event" : null; break;
                    case "event": next = token.equals("v") ? "chance" : null; break;
                    case "chance": next = isNumber ? ";event" : null; chances.add(n); break;
                    case ";event": next = token.equals(";") ? "more" : null; break;
                    case "heed": next = isNumber ? ";prophet" : null; heeds.add(n); break;
                    case ";prophet": next = token.equals(";") ? "prophet" : null; break;
                    case "more":
                        next = token.equals("v") ? "chance" : kind > 0 ? "heed" : token.isEmpty() ? "end" : null;
                        break;
                    default: next = kind > 0 ? "heed" : token.isEmpty() ? "end" : null; break;
                }
                if (next == null) {
                    fault = 1;
                    return;
                }
                boolean isOut = state.equals("rate") && (n < 1 || n > 20) || state.equals("first") && n > 50
                        || state.equals("chance") && (n < 1 || n > 19) || state.equals("heed") && n > 50;
                if (isOut) {
                    fault = 2;
                    return;
                }
                if (next.equals("chance") && chances.size() == 6 || next.equals("heed") && kinds.size() == 5) {
                    fault = 3;
                    return;
                }
                if (next.equals("heed")) {
                    kinds.add(kind);
                }
                state = next;
            }
            world.chance = chances.stream().mapToInt(i -> i).toArray();
            world.kind = kinds.stream().mapToInt(i -> i).toArray();
            world.heed = heeds.stream().mapToInt(i -> i).toArray();
            world.purse = new int[kinds.size()];
            world.right = new int[kinds.size()];
            world.wrong = new int[kinds.size()];
        }
    }

    /** One run: mostly calls that fit, some that are off by one, some far off. */
    private static final class Run {
        private static final int[] FAR = {Integer.MIN_VALUE, -1000000, -2, -1, 41, 64, 100, 1000000, Integer.MAX_VALUE};

        final Check check;
        final Random random;
        final String name;
        final ProphetFines x = new ProphetFines();
        final Model m = new Model();
        int calls = 0;

        Run(Check check, int seed) {
            this.check = check;
            this.random = new Random(seed);
            this.name = "run " + seed + ", call ";
        }

        void go() {
            if (random.nextInt(5) > 0) {
                tell();
            }
            while (calls < CALLS) {
                one();
            }
        }

        void due(String call, long got, long want) {
            calls++;
            check.due(name + calls + ": " + call, got, want);
        }

        /** A number of 0 .. end, end being one too many; rarely one far off. */
        int upTo(int end) {
            if (random.nextInt(60) == 0) {
                return FAR[random.nextInt(FAR.length)];
            }
            return random.nextInt(25) == 0 ? end : random.nextInt(Math.max(end, 1));
        }

        void feed(String text) {
            for (int i = 0; i < text.length() && calls < CALLS; i++) {
                due("feed", x.feed(text.charAt(i)), m.feed(text.charAt(i)));
            }
        }

        void tell() {
            StringBuilder text = new StringBuilder("f").append(1 + random.nextInt(20)).append(',')
                    .append(random.nextInt(51)).append(';');
            int events = 1 + random.nextInt(6);
            for (int e = 0; e < events; e++) {
                text.append('v').append(1 + random.nextInt(19)).append(';');
            }
            int prophets = random.nextInt(6);
            for (int p = 0; p < prophets; p++) {
                text.append("wlaoi".charAt(random.nextInt(5))).append(random.nextInt(51)).append(';');
            }
            for (int spoilt = random.nextInt(3) == 0 ? 1 : 0; spoilt > 0; spoilt--) {
                int at = random.nextInt(text.length());
                String signs = "fvwlaoi0123456789,;xV ";
                text.replace(at, at + random.nextInt(2), "" + signs.charAt(random.nextInt(signs.length())));
            }
            feed(text.toString());
            due("republic of " + text, x.republic(), m.republic());
            due("fault", x.fault(), m.fault);
        }

        void one() {
            int events = m.world.chance.length;
            int p = upTo(m.world.kind.length);
            int s = upTo(m.world.said.size());
            int set = upTo(m.world.sets());
            switch (random.nextInt(34)) {
                case 0: case 1: case 2: case 3: case 4: case 5: case 6: say(p, events); break;
                case 7: if (random.nextInt(3) == 0) due("unsay", x.unsay(), m.unsay()); break;
                case 8: chance(events); break;
                case 9: if (random.nextInt(3) == 0) due("year " + set, x.year(set), m.year(set)); break;
                case 10: if (random.nextInt(3) == 0) drawn(); break;
                case 11: if (random.nextInt(2) == 0) due("undo", x.undo(), m.undo()); break;
                case 12: if (random.nextInt(20) == 0) tell(); break;
                case 13: rows(); break;
                case 14: could(); break;
                case 15: if (random.nextInt(3) == 0) images(); break;
                case 16: prophets(p); break;
                case 17: { int w = upTo(5); due("saying " + s + " " + w, x.saying(s, w), m.saying(s, w)); break; }
                case 18: odds(events); break;
                case 19: due("fine " + s + " " + set, x.fine(s, set), m.fine(s, set)); break;
                case 20: due("net " + p + " " + set, x.net(p, set), m.net(p, set)); break;
                case 21: { int w = upTo(2); due("expected " + p + " " + w, x.expected(p, w), m.expected(p, w)); break; }
                case 22: { int w = upTo(2); due("worst " + p + " " + w, x.worst(p, w), m.worst(p, w)); break; }
                case 23: cheapest(p, events); break;
                case 24: { int w = upTo(2); due("loopholes " + w, x.loopholes(w), m.loopholes(w)); break; }
                case 25: due("shut", x.shut(), m.shut()); break;
                case 26: group(); break;
                case 27: { int w = upTo(2); due("premium " + s + " " + w, x.premium(s, w), m.premium(s, w)); break; }
                case 28: due("heeded", x.heeded(), m.heeded()); break;
                case 29: due("plain " + p, x.plain(p), m.plain(p)); break;
                case 30: { int k = upTo(6); due("as " + p + " " + k, x.as(p, k), m.as(p, k)); break; }
                case 31: { int w = upTo(2); due("ask " + p + " " + w, x.ask(p, w), m.ask(p, w)); break; }
                case 32: { int i = upTo(7); due("trace " + i, x.trace(i), m.trace(i)); break; }
                default: { int w = upTo(7); due("count " + w, x.count(w), m.count(w)); due("status", x.status(), m.status); break; }
            }
        }

        void say(int p, int events) {
            int form = upTo(5);
            int e = upTo(events);
            int f = form < 2 && random.nextInt(20) > 0 ? e : upTo(events);
            if (form >= 2 && f < e && random.nextInt(10) > 0) {
                int swapped = e;
                e = f;
                f = swapped;
            }
            due("say " + p + " " + form + " " + e + " " + f, x.say(p, form, e, f), m.say(p, form, e, f));
        }

        void chance(int events) {
            int e = upTo(events);
            int c = upTo(20);
            due("chance " + e + " " + c, x.chance(e, c), m.chance(e, c));
        }

        void drawn() {
            int seed = upTo(1000000);
            due("drawn " + seed, x.drawn(seed), m.drawn(seed));
        }

        void prophets(int p) {
            int w = upTo(5);
            due("prophet " + p + " " + w, x.prophet(p, w), m.prophet(p, w));
            due("kind " + p, x.kind(p), m.kind(p));
        }

        void odds(int events) {
            int form = upTo(5);
            int e = upTo(events);
            int f = form < 2 ? e : upTo(events);
            due("odds " + form + " " + e + " " + f, x.odds(form, e, f), m.odds(form, e, f));
        }

        void cheapest(int p, int events) {
            int e = upTo(events);
            int w = upTo(4);
            due("cheapest " + p + " " + e + " " + w, x.cheapest(p, e, w), m.cheapest(p, e, w));
        }

        void group() {
            int n = upTo(4);
            int k = random.nextInt(4) - 1;
            due("group " + n + " " + k, x.group(n, k), m.group(n, k));
        }

        void images() {
            int k = upTo(2);
            if (random.nextInt(2) == 0) {
                due("image " + k, x.image(k), m.image(k));
            } else {
                due("restore " + k, x.restore(k), m.restore(k));
            }
        }

        void rows() {
            int a = upTo(8);
            int b = upTo(8);
            int i = upTo(9);
            int j = upTo(9);
            int n = upTo(9);
            switch (random.nextInt(6)) {
                case 0: case 1: { int lane = upTo(3); due("row", x.row(a, lane, n), m.row(a, lane, n)); break; }
                case 2: case 3: { int v = random.nextInt() >> random.nextInt(32); due("set", x.set(a, i, v), m.set(a, i, v)); break; }
                case 4: due("copy", x.copy(a, i, b, j, n), m.copy(a, i, b, j, n)); break;
                default: due("drop", x.drop(a), m.drop(a)); break;
            }
            due("status", x.status(), m.status);
        }

        /** Mostly what some set would really bring, with some left unknown. */
        void could() {
            int row = upTo(8);
            int from = random.nextInt(3);
            int many = m.world.kind.length;
            if (random.nextInt(4) > 0) {
                int lane = 1 + random.nextInt(2);
                due("row", x.row(row, lane, many + from), m.row(row, lane, many + from));
                int set = random.nextInt(m.world.sets());
                for (int p = 0; p < many; p++) {
                    int v = random.nextInt(3) == 0 ? -1 : random.nextInt(30) == 0 ? random.nextInt(50) - 3 : m.world.fines(p, set);
                    due("set", x.set(row, from + p, v), m.set(row, from + p, v));
                }
            } else {
                from = upTo(9);
            }
            for (int what = 0; what < 4; what++) {
                due("could " + row + " " + from + " " + what, x.could(row, from, what), m.could(row, from, what));
                due("status", x.status(), m.status);
            }
        }
    }
}
