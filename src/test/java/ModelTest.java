import java.math.BigInteger;
import java.util.ArrayDeque;
import java.util.ArrayList;
import java.util.Arrays;
import java.util.HashMap;
import java.util.List;
import java.util.Map;
import java.util.Random;
import java.util.TreeSet;

/**
 * Random runs of calls against a plain model of the document, which tries everything out:
 * every way of every number, every set of parts to loosen, every case of slipping beads.
 */
public final class ModelTest {
    static final int NONE = -1, UNKNOWN = -2, OUTSIDE = -3, NOT = -4, FULL = -5;

    /** Thrown at the first token that cannot stand where it stands. */
    static final class Fault extends RuntimeException {
        private static final long serialVersionUID = 1L;
        final int place;

        Fault(int place) {
            this.place = place;
        }
    }

    /** Thrown by a statement that cannot be done. */
    static final class Stop extends RuntimeException {
        private static final long serialVersionUID = 1L;
    }

    static final class Rod {
        int kind, base, low, high;

        Rod(int kind, int base, int low, int high) {
            this.kind = kind;
            this.base = base;
            this.low = low;
            this.high = high;
        }

        int worth() {
            return kind == 0 ? 0 : kind == 3 ? low + 1 : 5;
        }

        int price(int part) {
            return kind == 2 ? 2 : kind == 3 && part == 1 ? 3 : 1;
        }
    }

    /** Pushed beads (high, low of rod 0, high, low of rod 1 ..), stuck parts, time. */
    static final class State {
        int[] beads = new int[12];
        int stuck;
        int time;

        State copy() {
            State s = new State();
            s.beads = beads.clone();
            s.stuck = stuck;
            s.time = time;
            return s;
        }
    }

    static final class Way {
        int time;
        int[] beads;
        long count;
    }

    static final class Token {
        final String word;
        final int place;

        Token(String word, int place) {
            this.word = word;
            this.place = place;
        }
    }

    static final class Model {
        StringBuilder text = new StringBuilder();
        List<Rod> rods = new ArrayList<>();
        int told;
        State now = new State();
        ArrayDeque<State> past = new ArrayDeque<>();
        State[] kept = new State[2];
        List<int[]> seen = new ArrayList<>();
        List<Token> tokens;
        int at;

        // ---- ways

        long placeOf(int rod) {
            long place = 1;
            for (int i = 0; i < rod; i++) {
                place *= rods.get(i).base;
            }
            return place;
        }

        int index(int rod, int part) {
            return 2 * rod + 1 - part;
        }

        int shows(State s, int rod) {
            return s.beads[index(rod, 0)] + s.beads[index(rod, 1)] * rods.get(rod).worth();
        }

        long number(State s) {
            long sum = 0;
            for (int i = 0; i < rods.size(); i++) {
                sum += placeOf(i) * shows(s, i);
            }
            return sum;
        }

        boolean stuck(State s, int rod, int part) {
            return (s.stuck >> (2 * rod + part) & 1) == 1;
        }

        int took(State from, int[] to) {
            int sum = 0;
            for (int i = 0; i < rods.size(); i++) {
                for (int part = 0; part < 2; part++) {
                    sum += Math.abs(from.beads[index(i, part)] - to[index(i, part)]) * rods.get(i).price(part);
                }
            }
            return sum;
        }

        /** All numbers that can be shown, each with its best way and how many ways it has. */
        Map<Long, Way> all(State s) {
            Map<Long, Way> ways = new HashMap<>();
            Way start = new Way();
            start.beads = s.beads.clone();
            start.count = 1;
            ways.put(0L, start);
            for (int i = 0; i < rods.size(); i++) {
                Map<Long, Way> next = new HashMap<>();
                for (Map.Entry<Long, Way> e : ways.entrySet()) {
                    for (int h = 0; h <= rods.get(i).high; h++) {
                        for (int l = 0; l <= rods.get(i).low; l++) {
                            extend(next, e, s, i, h, l);
                        }
                    }
                }
                ways = next;
            }
            return ways;
        }

        private void extend(Map<Long, Way> next, Map.Entry<Long, Way> e, State s, int i, int h, int l) {
            if (stuck(s, i, 0) && l != s.beads[index(i, 0)] || stuck(s, i, 1) && h != s.beads[index(i, 1)]) {
                return;
            }
            Way w = new Way();
            w.beads = e.getValue().beads.clone();
            w.beads[index(i, 0)] = l;
            w.beads[index(i, 1)] = h;
            w.time = took(s, w.beads);
            w.count = e.getValue().count;
            long n = e.getKey() + placeOf(i) * (l + h * rods.get(i).worth());
            Way old = next.get(n);
            if (old == null) {
                next.put(n, w);
                return;
            }
            long count = old.count + w.count;
            if (w.time < old.time || w.time == old.time && Arrays.compare(w.beads, old.beads) < 0) {
                next.put(n, w);
            }
            next.get(n).count = count;
        }

        int settle(State s, long number) {
            Way w = all(s).get(number);
            if (w == null) {
                return NONE;
            }
            s.beads = w.beads.clone();
            s.time = Math.min(1000000, s.time + w.time);
            return w.time;
        }

        int carryOver(State s, int rod) {
            if (rod + 1 >= rods.size() || shows(s, rod) < rods.get(rod).base) {
                return NONE;
            }
            int[] best = null;
            Rod a = rods.get(rod);
            Rod b = rods.get(rod + 1);
            for (int code = 0; code < 10 * 10 * 4 * 4; code++) {
                int[] to = s.beads.clone();
                to[index(rod, 0)] = code % 10;
                to[index(rod + 1, 0)] = code / 10 % 10;
                to[index(rod, 1)] = code / 100 % 4;
                to[index(rod + 1, 1)] = code / 400;
                State t = new State();
                t.beads = to;
                boolean fits = to[index(rod, 0)] <= a.low && to[index(rod, 1)] <= a.high
                        && to[index(rod + 1, 0)] <= b.low && to[index(rod + 1, 1)] <= b.high
                        && shows(t, rod) == shows(s, rod) - a.base && shows(t, rod + 1) == shows(s, rod + 1) + 1;
                for (int i = 0; i < 12 && fits; i++) {
                    fits = to[i] == s.beads[i] || !stuck(s, i / 2, 1 - i % 2);
                }
                if (fits && (best == null || took(s, to) < took(s, best)
                        || took(s, to) == took(s, best) && Arrays.compare(to, best) < 0)) {
                    best = to;
                }
            }
            if (best == null) {
                return NONE;
            }
            int took = took(s, best);
            s.beads = best;
            s.time = Math.min(1000000, s.time + took);
            return took;
        }

        // ---- texts

        void tokenize() {
            tokens = new ArrayList<>();
            at = 0;
            java.util.regex.Matcher m = java.util.regex.Pattern.compile("[a-z]+|[0-9]+|[^ ]", java.util.regex.Pattern.DOTALL)
                    .matcher(text);
            while (m.find()) {
                tokens.add(new Token(m.group(), m.start()));
            }
            tokens.add(new Token("", text.length()));
        }

        Token peek() {
            return tokens.get(at);
        }

        boolean accept(String word) {
            if (peek().word.equals(word)) {
                at++;
                return true;
            }
            return false;
        }

        int take(int digits, int least, int greatest) {
            Token t = peek();
            if (!t.word.matches("[0-9]{1," + digits + "}") || Integer.parseInt(t.word) < least
                    || Integer.parseInt(t.word) > greatest) {
                throw new Fault(t.place);
            }
            at++;
            return Integer.parseInt(t.word);
        }

        boolean more(int done) {
            if (peek().word.isEmpty()) {
                return false;
            }
            if (done == 12 || !accept(";")) {
                throw new Fault(peek().place);
            }
            return true;
        }

        int readFrame(List<Rod> into, int[] mask) {
            tokenize();
            into.addAll(rods);
            mask[0] = told;
            int done = 0;
            do {
                clause(into, mask);
                done++;
            } while (more(done));
            return done;
        }

        void clause(List<Rod> into, int[] mask) {
            Token t = peek();
            int kind = Arrays.asList("plain", "five", "slow", "heir").indexOf(t.word);
            if (accept("frame")) {
                into.clear();
                mask[0] = 0;
            } else if (accept("stuck")) {
                int r = take(2, 0, into.size() - 1);
                mask[0] |= 1 << (2 * r + take(2, 0, 1));
            } else if (kind < 0 || into.size() == 6) {
                throw new Fault(t.place);
            } else {
                at++;
                into.add(new Rod(kind, take(2, 2, 16), take(2, 1, 9), kind == 0 ? 0 : take(2, 0, 3)));
            }
        }

        int sums(State s, boolean doing) {
            tokenize();
            int done = 0;
            do {
                try {
                    statement(s, doing);
                } catch (Stop stop) {
                    return done;
                }
                done++;
            } while (more(done));
            return done;
        }

        void statement(State s, boolean doing) {
            Token t = peek();
            if (accept("clear")) {
                if (doing) {
                    pushBack(s);
                }
            } else if (accept("carry")) {
                int r = take(2, 0, rods.size() - 1);
                if (doing && carryOver(s, r) == NONE) {
                    throw new Stop();
                }
            } else if (accept("set") || accept("add") || accept("sub")) {
                BigInteger v = expr(s, doing, 0);
                BigInteger n = BigInteger.valueOf(number(s));
                BigInteger goal = t.word.equals("set") ? v : t.word.equals("add") ? n.add(v) : n.subtract(v);
                if (doing && settle(s, goal.longValueExact()) == NONE) {
                    throw new Stop();
                }
            } else {
                throw new Fault(t.place);
            }
        }

        void pushBack(State s) {
            int[] to = s.beads.clone();
            for (int i = 0; i < 12; i++) {
                if (!stuck(s, i / 2, 1 - i % 2)) {
                    to[i] = 0;
                }
            }
            s.time = Math.min(1000000, s.time + took(s, to));
            s.beads = to;
        }

        BigInteger step(BigInteger v, boolean doing) {
            if (doing && v.abs().compareTo(BigInteger.TEN.pow(12)) > 0) {
                throw new Stop();
            }
            return v;
        }

        BigInteger expr(State s, boolean doing, int depth) {
            BigInteger v = term(s, doing, depth);
            while (true) {
                if (accept("+")) {
                    v = step(v.add(term(s, doing, depth)), doing);
                } else if (accept("-")) {
                    v = step(v.subtract(term(s, doing, depth)), doing);
                } else {
                    return v;
                }
            }
        }

        BigInteger term(State s, boolean doing, int depth) {
            BigInteger v = part(s, doing, depth);
            while (true) {
                if (accept("*")) {
                    v = step(v.multiply(part(s, doing, depth)), doing);
                } else if (accept("/")) {
                    BigInteger by = part(s, doing, depth);
                    if (by.signum() == 0 && doing) {
                        throw new Stop();
                    }
                    v = by.signum() == 0 ? v : v.divide(by);
                } else {
                    return v;
                }
            }
        }

        BigInteger part(State s, boolean doing, int depth) {
            if (accept("#")) {
                return BigInteger.valueOf(number(s));
            }
            if (peek().word.equals("(")) {
                if (depth == 6) {
                    throw new Fault(peek().place);
                }
                at++;
                BigInteger v = expr(s, doing, depth + 1);
                if (!accept(")")) {
                    throw new Fault(peek().place);
                }
                return v;
            }
            return BigInteger.valueOf(take(7, 0, Integer.MAX_VALUE));
        }

        // ---- calls

        int fault(int what) {
            if (what < 0 || what > 1) {
                return OUTSIDE;
            }
            try {
                if (what == 0) {
                    readFrame(new ArrayList<>(), new int[1]);
                } else {
                    sums(now.copy(), false);
                }
                return NONE;
            } catch (Fault f) {
                return f.place;
            }
        }

        int frame() {
            if (fault(0) != NONE) {
                return NOT;
            }
            List<Rod> into = new ArrayList<>();
            int[] mask = new int[1];
            int done = readFrame(into, mask);
            rods = into;
            told = mask[0];
            now = new State();
            now.stuck = told;
            past.clear();
            kept = new State[2];
            seen.clear();
            text.setLength(0);
            return done;
        }

        void remember() {
            past.addLast(now.copy());
            if (past.size() > 8) {
                past.removeFirst();
            }
        }

        int run() {
            if (fault(1) != NONE) {
                return NOT;
            }
            remember();
            int done = sums(now, true);
            text.setLength(0);
            return done;
        }

        boolean isRod(int rod) {
            return rod >= 0 && rod < rods.size();
        }

        boolean isPart(int part) {
            return part == 0 || part == 1;
        }

        boolean isNumber(int n) {
            return n >= 0 && n <= 1000000000;
        }

        int beads() {
            return Arrays.stream(now.beads).sum();
        }

        long call(String name, int[] a) {
            switch (name) {
                case "write":
                    if (a[0] < 0 || a[0] > 255) {
                        return OUTSIDE;
                    }
                    if (text.length() == 160) {
                        return FULL;
                    }
                    return text.append((char) a[0]).length();
                case "erase": {
                    int had = text.length();
                    text.setLength(0);
                    return had;
                }
                case "fault":
                    return fault(a[0]);
                case "frame":
                    return frame();
                case "run":
                    return run();
                case "rod":
                    return isRod(a[0]) ? rodTold(a[0], a[1]) : UNKNOWN;
                case "number":
                    return number(now);
                case "as":
                    return asKind(a[0], a[1]);
                case "undo":
                    if (past.isEmpty()) {
                        return NOT;
                    }
                    now = past.removeLast();
                    return past.size();
                case "keep":
                    if (!isPart(a[0])) {
                        return UNKNOWN;
                    }
                    kept[a[0]] = now.copy();
                    return beads();
                case "back":
                    if (!isPart(a[0])) {
                        return UNKNOWN;
                    }
                    if (kept[a[0]] == null) {
                        return NOT;
                    }
                    now = kept[a[0]].copy();
                    past.clear();
                    return beads();
                case "push":
                case "stick":
                case "set":
                case "carry":
                    return done(name, a);
                case "seen":
                case "forget":
                case "kinds":
                case "slips":
                case "count":
                    return seenCall(name, a);
                default:
                    return foretold(name, a);
            }
        }

        long rodTold(int rod, int what) {
            Rod r = rods.get(rod);
            switch (what) {
                case 0: return r.kind;
                case 1: return r.base;
                case 2: return r.low;
                case 3: return r.high;
                case 4: return now.beads[index(rod, 0)];
                case 5: return now.beads[index(rod, 1)];
                case 6: return stuck(now, rod, 0) ? 1 : 0;
                case 7: return stuck(now, rod, 1) ? 1 : 0;
                case 8: return shows(now, rod);
                case 9: return r.low + r.high * r.worth();
                default: return OUTSIDE;
            }
        }

        long asKind(int rod, int kind) {
            if (!isRod(rod)) {
                return UNKNOWN;
            }
            if (kind < 0 || kind > 4) {
                return OUTSIDE;
            }
            int own = rods.get(rod).kind + 1;
            boolean under = kind == 0 || kind == own || kind == 2 && own > 2;
            return under ? rods.get(rod).worth() : NOT;
        }

        long done(String name, int[] a) {
            State next = now.copy();
            long answer;
            if (name.equals("set")) {
                if (!isNumber(a[0])) {
                    return OUTSIDE;
                }
                answer = settle(next, a[0]);
            } else {
                if (!isRod(a[0]) || !name.equals("carry") && !isPart(a[1])) {
                    return UNKNOWN;
                }
                if (name.equals("carry")) {
                    answer = carryOver(next, a[0]);
                } else if (name.equals("stick")) {
                    next.stuck ^= 1 << (2 * a[0] + a[1]);
                    answer = stuck(next, a[0], a[1]) ? 1 : 0;
                } else {
                    if (a[2] < 0 || a[2] > (a[1] == 0 ? rods.get(a[0]).low : rods.get(a[0]).high)) {
                        return OUTSIDE;
                    }
                    next.beads[index(a[0], a[1])] = a[2];
                    answer = stuck(now, a[0], a[1]) ? NONE : took(now, next.beads);
                    next.time = (int) Math.min(1000000, next.time + answer);
                }
            }
            if (answer == NONE) {
                return NOT;
            }
            remember();
            now = next;
            return answer;
        }

        long foretold(String name, int[] a) {
            if (name.equals("tour")) {
                return tour(a);
            }
            if (name.equals("pushed") && (!isRod(a[1]) || !isPart(a[2]))) {
                return UNKNOWN;
            }
            if (name.equals("span") ? a[0] < 0 || a[0] > 2 : !isNumber(a[0])) {
                return OUTSIDE;
            }
            Map<Long, Way> all = all(now);
            Way w = all.get((long) a[0]);
            switch (name) {
                case "ways": return w == null ? 0 : w.count;
                case "time": return w == null ? NONE : w.time;
                case "pushed": return w == null ? NONE : w.beads[index(a[1], a[2])];
                case "span": return span(new TreeSet<>(all.keySet()), a[0]);
                case "nearest": return nearest(new TreeSet<>(all.keySet()), a[0]);
                case "loosen": return loosen(a[0]);
                default: throw new IllegalStateException(name);
            }
        }

        long span(TreeSet<Long> shown, int what) {
            if (what < 2) {
                return what == 0 ? shown.last() : shown.first();
            }
            for (long n = shown.first() + 1; n <= shown.first() + 500; n++) {
                if (!shown.contains(n)) {
                    return n;
                }
            }
            return NONE;
        }

        long nearest(TreeSet<Long> shown, long n) {
            Long below = shown.floor(n);
            Long above = shown.ceiling(n);
            long best = NONE;
            if (below != null && n - below <= 500) {
                best = below;
            }
            if (above != null && above - n <= 500 && (best == NONE || above - n < n - best)) {
                best = above;
            }
            return best;
        }

        long loosen(long n) {
            int best = NONE;
            for (int set = 0; set < 4096; set++) {
                if ((set & now.stuck) == set && (best == NONE || Integer.bitCount(set) < Integer.bitCount(best))) {
                    State s = now.copy();
                    s.stuck &= ~set;
                    if (all(s).containsKey(n)) {
                        best = set;
                    }
                }
            }
            return best;
        }

        static final int[][] ORDERS = {{0, 1, 2}, {0, 2, 1}, {1, 0, 2}, {1, 2, 0}, {2, 0, 1}, {2, 1, 0}};

        long tour(int[] a) {
            for (int i = 0; i < 3; i++) {
                if (a[i] < 0 || a[i] > 1000000) {
                    return OUTSIDE;
                }
            }
            if (!isPart(a[3])) {
                return OUTSIDE;
            }
            int best = Integer.MAX_VALUE;
            int order = NONE;
            for (int o = 0; o < 6; o++) {
                State s = now.copy();
                int sum = 0;
                for (int i : ORDERS[o]) {
                    int took = settle(s, a[i]);
                    if (took == NONE) {
                        return NONE;
                    }
                    sum += took;
                }
                if (sum < best) {
                    best = sum;
                    order = o;
                }
            }
            return a[3] == 0 ? best : order;
        }

        long seenCall(String name, int[] a) {
            if (name.equals("forget")) {
                int were = seen.size();
                seen.clear();
                return were;
            }
            if (name.equals("count")) {
                return count(a[0]);
            }
            if (!isRod(a[0]) || name.equals("slips") && !isPart(a[3])) {
                return UNKNOWN;
            }
            if (name.equals("kinds")) {
                return kinds(a[0]);
            }
            if (name.equals("slips")) {
                return a[1] < 0 || a[1] > 10 || a[2] < 0 || a[2] > 60 ? OUTSIDE : slips(a);
            }
            if (a[1] < 0 || a[1] > 40 || a[2] < 0 || a[2] > 99) {
                return OUTSIDE;
            }
            if (seen.size() == 6) {
                return FULL;
            }
            seen.add(a.clone());
            return seen.size();
        }

        long kinds(int rod) {
            Rod now = rods.get(rod);
            int bits = 0;
            for (int k = 0; k < 4; k++) {
                Model alone = new Model();
                alone.rods.add(new Rod(k, now.base, now.low, k == 0 ? 0 : now.high));
                Map<Long, Way> all = alone.all(alone.now);
                boolean fits = true;
                for (int[] s : seen) {
                    Way w = all.get((long) s[1]);
                    fits &= s[0] != rod || w != null && w.time == s[2];
                }
                bits |= fits ? 1 << k : 0;
            }
            return bits;
        }

        long slips(int[] a) {
            int lows = now.beads[index(a[0], 0)];
            int highs = now.beads[index(a[0], 1)];
            BigInteger above = BigInteger.ZERO;
            for (int stay = 0; stay < 1 << (lows + highs); stay++) {
                int l = Integer.bitCount(stay & ((1 << lows) - 1));
                int h = Integer.bitCount(stay >> lows);
                if (l + h * rods.get(a[0]).worth() >= a[2]) {
                    above = above.add(BigInteger.valueOf(10 - a[1]).pow(l + h)
                            .multiply(BigInteger.valueOf(a[1]).pow(lows + highs - l - h)));
                }
            }
            BigInteger below = BigInteger.TEN.pow(lows + highs);
            BigInteger common = above.gcd(below);
            return (a[3] == 0 ? above : below).divide(common).longValueExact();
        }

        long count(int what) {
            int full = 0;
            for (int i = 0; i < rods.size(); i++) {
                full |= shows(now, i) >= rods.get(i).base ? 1 << i : 0;
            }
            int[] counts = {rods.size(), beads(), now.stuck, now.time, seen.size(), past.size(), text.length(), full};
            return what < 0 || what > 7 ? OUTSIDE : counts[what];
        }
    }

    // ---- the class under test, called by name

    static long real(RodBeads x, String name, int[] a) {
        switch (name) {
            case "write": return x.write(a[0]);
            case "erase": return x.erase();
            case "fault": return x.fault(a[0]);
            case "frame": return x.frame();
            case "run": return x.run();
            case "rod": return x.rod(a[0], a[1]);
            case "number": return x.number();
            case "as": return x.as(a[0], a[1]);
            case "push": return x.push(a[0], a[1], a[2]);
            case "stick": return x.stick(a[0], a[1]);
            case "set": return x.set(a[0]);
            case "carry": return x.carry(a[0]);
            case "undo": return x.undo();
            case "keep": return x.keep(a[0]);
            case "back": return x.back(a[0]);
            case "ways": return x.ways(a[0]);
            case "time": return x.time(a[0]);
            case "pushed": return x.pushed(a[0], a[1], a[2]);
            case "span": return x.span(a[0]);
            case "nearest": return x.nearest(a[0]);
            case "loosen": return x.loosen(a[0]);
            case "tour": return x.tour(a[0], a[1], a[2], a[3]);
            case "seen": return x.seen(a[0], a[1], a[2]);
            case "forget": return x.forget();
            case "kinds": return x.kinds(a[0]);
            case "slips": return x.slips(a[0], a[1], a[2], a[3]);
            case "count": return x.count(a[0]);
            default: throw new IllegalStateException(name);
        }
    }

    static int wrong = 0;
    static long calls = 0;

    /** One run: an object, its model, and the calls so far. */
    static final class Run {
        final RodBeads x = new RodBeads();
        final Model m = new Model();
        final Random dice;
        final StringBuilder story = new StringBuilder();
        int made = 0;
        boolean bad = false;

        Run(Random dice) {
            this.dice = dice;
        }

        long call(String name, int... a) {
            long want = m.call(name, a);
            long got = real(x, name, a);
            made++;
            calls++;
            if (!name.equals("write")) {
                story.append(name).append(Arrays.toString(a)).append(" ");
            }
            if (got != want && !bad) {
                bad = true;
                wrong++;
                System.out.println(story + ": answered " + got + ", due is " + want);
            }
            return want;
        }

        void write(String text) {
            story.append('"').append(text).append("\" ");
            for (char c : text.toCharArray()) {
                call("write", c);
            }
        }

        int pick(int... of) {
            return of[dice.nextInt(of.length)];
        }

        int upTo(int n) {
            return dice.nextInt(n + 1);
        }

        int rod() {
            return dice.nextInt(12) == 0 ? pick(-1, 6, m.rods.size(), Integer.MIN_VALUE, Integer.MAX_VALUE)
                    : upTo(Math.max(m.rods.size() - 1, 0));
        }

        int part() {
            return dice.nextInt(20) == 0 ? pick(-1, 2, Integer.MAX_VALUE) : upTo(1);
        }

        int what(int greatest) {
            return upTo(greatest + 2) - 1;
        }

        /** How much all beads say together. */
        int most() {
            long most = 0;
            for (int i = 0; i < m.rods.size(); i++) {
                Rod r = m.rods.get(i);
                most += m.placeOf(i) * (r.low + r.high * r.worth());
            }
            return (int) most;
        }

        int number() {
            int n = upTo(11);
            if (n == 0) {
                return pick(-1, 1000000000, 1000000001, Integer.MIN_VALUE, Integer.MAX_VALUE, 1000000, 1000001);
            }
            if (n == 1) {
                return (int) m.number(m.now) + upTo(20);
            }
            if (n == 2) {
                return most() + upTo(600);
            }
            return n == 3 ? upTo(20) : n < 8 ? shownNumber() : upTo(most());
        }

        // ---- texts

        static final String[] KINDS = {"plain", "five", "slow", "heir"};

        String rodTold(int spread) {
            int kind = upTo(3);
            int base = spread > 100 ? 2 : spread > 20 ? 2 + upTo(1) : 2 + upTo(3) * upTo(1) + upTo(11) * upTo(1);
            String told = KINDS[kind] + " " + base + " " + (1 + upTo(8));
            return kind == 0 ? told : told + " " + upTo(3);
        }

        String frameText(int rods) {
            StringBuilder t = new StringBuilder(dice.nextInt(10) > 0 ? "frame" : rodTold(1));
            int spread = 1;
            int all = 0;
            for (int i = 0; i < rods; i++) {
                String rod = rodTold(spread);
                if (t.length() + rod.length() < 156) {
                    spread *= Integer.parseInt(rod.split(" ")[1]);
                    t.append(";").append(rod);
                    all++;
                }
            }
            for (int i = upTo(4) * upTo(1); i > 0 && all > 0; i--) {
                t.append(";stuck ").append(upTo(all - 1)).append(" ").append(upTo(1));
            }
            return t.length() > 160 ? t.substring(0, 160) : t.toString();
        }

        String expr(int depth) {
            int n = upTo(depth > 0 ? 7 : 4);
            if (n == 0) {
                return "#";
            }
            if (n < 5) {
                return n == 1 ? "" + upTo(9999999) : n == 2 ? "" + upTo(9) : "" + upTo(Math.min(most(), 9999998));
            }
            if (n == 5) {
                return "(" + expr(depth - 1) + ")";
            }
            return expr(depth - 1) + "+-*/".charAt(upTo(3)) + expr(depth - 1);
        }

        String sumsText() {
            StringBuilder t = new StringBuilder();
            for (int i = upTo(4); i >= 0; i--) {
                String s = new String[] {"set " + expr(2), "set #+" + upTo(30), "add " + upTo(30), "sub " + upTo(30), "clear",
                    "carry " + upTo(Math.max(m.rods.size() - 1, 0)), "set " + upTo(Math.max(most(), 0)),
                    "add " + expr(1), "sub " + expr(2)}[upTo(8)];
                if (t.length() + s.length() < 155) {
                    t.append(t.length() > 0 ? ";" : "").append(s);
                }
            }
            return t.toString();
        }

        String spoiled(String text) {
            StringBuilder t = new StringBuilder(text);
            for (int i = upTo(2); i >= 0 && t.length() > 0; i--) {
                int place = upTo(t.length() - 1);
                String letters = " ;;09a1#()+-*/Z\t\u00e9\u0000";
                char c = letters.charAt(upTo(letters.length() - 1));
                switch (upTo(3)) {
                    case 0: t.deleteCharAt(place); break;
                    case 1: t.insert(place, c); break;
                    case 2: t.setCharAt(place, c); break;
                    default: t.setLength(place); break;
                }
            }
            return t.length() > 160 ? t.substring(0, 160) : t.toString();
        }

        /** A frame too large for the model to try out is not made. */
        boolean isSmall(String text) {
            Model probe = new Model();
            probe.text.append(m.text).append(text);
            probe.rods = new ArrayList<>(m.rods);
            if (probe.frame() == NOT) {
                return dice.nextInt(20) == 0;
            }
            long most = 0;
            for (int i = 0; i < probe.rods.size(); i++) {
                Rod r = probe.rods.get(i);
                most += probe.placeOf(i) * (r.low + r.high * r.worth());
            }
            return most <= 4000;
        }

        void tellFrame() {
            int rods = dice.nextInt(12) == 0 ? 0 : 1 + upTo(5);
            String text = "frame";
            for (int i = 0; i < 200 && (i == 0 || !isSmall(text)); i++) {
                text = frameText(rods);
            }
            if (!isSmall(text)) {
                text = "frame;five 2 4 1;slow 3 2 2";
            }
            write(text);
            call("fault", 0);
            call("frame");
        }

        static final String[] NAMES = {"write", "fault", "rod", "as", "push", "stick", "set", "carry", "keep", "back", "ways",
            "time", "pushed", "span", "nearest", "loosen", "tour", "seen", "kinds", "slips", "count"};
        static final int[] WILD = {Integer.MIN_VALUE, Integer.MIN_VALUE + 1, -1000000001, -2, -1, 0, 1, 2, 3, 4, 5, 6, 9, 10,
            11, 31, 32, 33, 40, 41, 60, 61, 64, 99, 100, 255, 256, 1000000, 1000001, 999999999, 1000000000, 1000000001,
            Integer.MAX_VALUE - 1, Integer.MAX_VALUE};

        void wildCall() {
            String name = NAMES[upTo(NAMES.length - 1)];
            if (!name.equals("loosen") || Integer.bitCount(m.now.stuck) < 6) {
                call(name, pick(WILD), pick(WILD), pick(WILD), pick(WILD));
            }
        }

        void randomCall() {
            switch (upTo(32)) {
                case 31:
                    for (int i = 0; i < 4; i++) {
                        wildCall();
                    }
                    break;
                case 0:
                    write(spoiled(dice.nextBoolean() ? frameText(upTo(4)) : sumsText()));
                    call("fault", what(1));
                    call("fault", 0);
                    call("fault", 1);
                    if (upTo(3) > 0) {
                        call("erase");
                    }
                    break;
                case 1:
                case 2:
                    write(sumsText());
                    call("fault", 1);
                    call("run");
                    call("number");
                    call("count", 3);
                    call("erase");
                    break;
                case 3: call("rod", rod(), what(9)); break;
                case 4: call("number"); break;
                case 5: call("as", rod(), what(4)); break;
                case 6:
                case 7:
                case 8: call("push", rod(), part(), what(9)); break;
                case 9: call("stick", rod(), part()); break;
                case 10:
                case 11: call("set", number()); break;
                case 12: carryCall(); break;
                case 13: call("undo"); break;
                case 14: call("keep", what(1)); break;
                case 15: call("back", upTo(8) > 0 ? upTo(1) : what(1)); break;
                case 16: call("ways", number()); break;
                case 17: call("time", number()); break;
                case 18: call("pushed", number(), rod(), part()); break;
                case 19: call("span", what(2)); break;
                case 20: call("nearest", number()); break;
                case 21:
                    if (Integer.bitCount(m.now.stuck) < 6) {
                        call("loosen", number());
                    }
                    break;
                case 22: tourCall(); break;
                case 23:
                case 24: seenCall(); break;
                case 25:
                    if (upTo(3) == 0) {
                        call("forget");
                    }
                    break;
                case 26: call("kinds", rod()); break;
                case 27:
                case 28: call("slips", rod(), what(10), upTo(3) > 0 ? upTo(20) : what(60), part()); break;
                default: call("count", what(7)); break;
            }
        }

        void carryCall() {
            int rod = rod();
            if (m.isRod(rod) && upTo(3) > 0) {
                call("push", rod, 0, m.rods.get(rod).low - upTo(1));
                call("push", rod, 1, upTo(m.rods.get(rod).high));
            }
            call("carry", rod);
            call("rod", rod, 8);
        }

        int shownNumber() {
            List<Long> shown = new ArrayList<>(m.all(m.now).keySet());
            return upTo(15) == 0 ? number() : (int) (long) shown.get(upTo(shown.size() - 1));
        }

        void tourCall() {
            int a = shownNumber();
            int b = shownNumber();
            int c = upTo(5) == 0 ? a : shownNumber();
            call("tour", a, b, c, 0);
            call("tour", a, b, c, 1);
            call("tour", a, b, c, what(1));
        }

        void seenCall() {
            int rod = rod();
            int v = upTo(5) > 0 ? upTo(12) : what(40);
            int t = upTo(5) > 0 ? upTo(14) : what(99);
            if (m.isRod(rod) && upTo(2) > 0) {
                Rod r = m.rods.get(rod);
                v = upTo(r.low) + upTo(r.high) * r.worth();
                Model alone = new Model();
                alone.rods.add(new Rod(upTo(3), r.base, r.low, r.high));
                Way w = alone.all(alone.now).get((long) v);
                t = w == null ? t : w.time;
            }
            call("seen", rod, v, t);
            call("kinds", rod);
        }

        void go() {
            int frames = 1 + upTo(1);
            for (int f = 0; f < frames && made < 280; f++) {
                tellFrame();
                for (int i = 0; i < 60 && made < 330; i++) {
                    randomCall();
                }
            }
            for (int i = 0; i < 10; i++) {
                call("count", i - 1);
            }
            for (int i = 0; i < 6; i++) {
                for (int w = 0; w < 10; w++) {
                    call("rod", i, w);
                }
            }
            for (int i = 0; i < 10; i++) {
                call("undo");
            }
            call("number");
            call("count", 3);
        }
    }

    public static void main(String[] args) {
        int runs = args.length > 0 ? Integer.parseInt(args[0]) : 700;
        long seed = args.length > 1 ? Long.parseLong(args[1]) : 20261118L;
        for (int i = 0; i < runs && wrong < 5; i++) {
            Run run = new Run(new Random(seed + i));
            run.go();
            if (run.made > 512) {
                throw new IllegalStateException("a run of " + run.made + " calls");
            }
        }
        System.out.println(calls + " calls, " + wrong + " runs not as due");
        if (wrong != 0) {
            System.exit(1);
        }
    }
}
