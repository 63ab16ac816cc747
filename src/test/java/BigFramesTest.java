import java.util.Arrays;
import java.util.Random;

/**
 * Frames of up to six rods with bases up to 16, whose numbers go into millions: too many for ModelTest
 * to try them all out. Here the ways of one number are told one by one, rod by rod: what rod 0 shows has
 * the number's rest by its base, what is left goes to the rods behind it.
 */
public final class BigFramesTest {
    private static final String[] WORDS = {"plain", "five", "slow", "heir"};
    private static final int NONE = -1, NOT = -4;
    private static final int[][] ORDERS = {{0, 1, 2}, {0, 2, 1}, {1, 0, 2}, {1, 2, 0}, {2, 0, 1}, {2, 1, 0}};
    private static int wrong = 0;
    private static long checks = 0;

    private final Random dice;
    private final RodBeads x = new RodBeads();
    private String told = "";
    private int size;
    private final int[] kind = new int[6];
    private final int[] base = new int[6];
    private final int[] low = new int[6];
    private final int[] high = new int[6];
    private int stuck;
    /** High and low beads of rod 0, of rod 1 ..: the row by which the document chooses among ways. */
    private int[] now = new int[12];
    private int spent;

    // What the telling of ways gathers.
    private final int[] trial = new int[12];
    private long found;
    private int bestTime;
    private int[] best;
    private boolean anyWillDo;

    private BigFramesTest(long seed) {
        dice = new Random(seed);
    }

    private void due(String call, long got, long want) {
        checks++;
        if (got != want) {
            wrong++;
            System.out.println(told + ", stuck " + stuck + ", beads " + Arrays.toString(now) + ": " + call + " answered "
                    + got + ", due is " + want);
        }
    }

    private int upTo(int n) {
        return dice.nextInt(n + 1);
    }

    private int worth(int rod) {
        return kind[rod] == 0 ? 0 : kind[rod] == 3 ? low[rod] + 1 : 5;
    }

    private int price(int rod, boolean isHigh) {
        return kind[rod] == 2 ? 2 : kind[rod] == 3 && isHigh ? 3 : 1;
    }

    private int shows(int[] beads, int rod) {
        return beads[2 * rod] * worth(rod) + beads[2 * rod + 1];
    }

    private long number(int[] beads) {
        long sum = 0;
        for (int i = size - 1; i >= 0; i--) {
            sum = sum * base[i] + shows(beads, i);
        }
        return sum;
    }

    private int took(int[] from, int[] to) {
        int sum = 0;
        for (int i = 0; i < 2 * size; i++) {
            sum += Math.abs(from[i] - to[i]) * price(i / 2, i % 2 == 0);
        }
        return sum;
    }

    private boolean isFree(int rod, int part, int n, int[] from, int stuckParts) {
        return (stuckParts >> (2 * rod + part) & 1) == 0 || from[2 * rod + 1 - part] == n;
    }

    private void tell(int rod, long left, int[] from, int stuckParts) {
        if (left < 0 || anyWillDo && found > 0) {
            return;
        }
        if (rod == size) {
            if (left == 0) {
                gather(from);
            }
            return;
        }
        for (int h = 0; h <= high[rod]; h++) {
            for (int l = 0; l <= low[rod]; l++) {
                long rest = left - l - h * worth(rod);
                if (rest % base[rod] == 0 && isFree(rod, 0, l, from, stuckParts) && isFree(rod, 1, h, from, stuckParts)) {
                    trial[2 * rod] = h;
                    trial[2 * rod + 1] = l;
                    tell(rod + 1, rest / base[rod], from, stuckParts);
                }
            }
        }
    }

    private void gather(int[] from) {
        found++;
        int time = took(from, trial);
        if (best == null || time < bestTime || time == bestTime && Arrays.compare(trial, best) < 0) {
            bestTime = time;
            best = trial.clone();
        }
    }

    private void tellAll(long n, int[] from) {
        found = 0;
        best = null;
        anyWillDo = false;
        tell(0, n, from, stuck);
    }

    private boolean canShow(long n, int stuckParts) {
        found = 0;
        best = null;
        anyWillDo = true;
        tell(0, n, now, stuckParts);
        return found > 0;
    }

    private void makeFrame() {
        StringBuilder text = new StringBuilder();
        size = dice.nextInt(4) > 0 ? 6 : 3 + upTo(2);
        double many = 1;
        for (int i = 0; i < size; i++) {
            kind[i] = upTo(3);
            low[i] = dice.nextInt(3) == 0 ? 9 : 1 + upTo(8);
            high[i] = kind[i] == 0 ? 0 : dice.nextInt(3) == 0 ? 3 : upTo(3);
            base[i] = dice.nextInt(6) == 0 ? 16 : 2 + upTo(14);
            double choices = (low[i] + 1.0) * (high[i] + 1);
            // Few ways for a number, so that they can be told one by one.
            while (base[i] < 16 && many * choices / base[i] > 3000) {
                base[i]++;
            }
            many *= Math.max(1, choices / base[i]);
            text.append(i > 0 ? ";" : "").append(WORDS[kind[i]]).append(' ').append(base[i]).append(' ').append(low[i]);
            text.append(kind[i] == 0 ? "" : " " + high[i]);
        }
        told = text.toString();
        for (char c : told.toCharArray()) {
            x.write(c);
        }
        due("frame()", x.frame(), size);
        due("count(0)", x.count(0), size);
        stuck = 0;
        now = new int[12];
        spent = 0;
    }

    private int[] randomBeads() {
        int[] beads = now.clone();
        for (int i = 0; i < size; i++) {
            if ((stuck >> (2 * i) & 1) == 0) {
                beads[2 * i + 1] = upTo(low[i]);
            }
            if ((stuck >> (2 * i + 1) & 1) == 0) {
                beads[2 * i] = upTo(high[i]);
            }
        }
        return beads;
    }

    private void pushSome() {
        int[] to = randomBeads();
        for (int i = 0; i < 2 * size; i++) {
            int part = 1 - i % 2;
            if ((stuck >> (i - i % 2 + part) & 1) == 0 && dice.nextInt(3) == 0) {
                int took = Math.abs(to[i] - now[i]) * price(i / 2, part == 1);
                due("push(" + i / 2 + ", " + part + ", " + to[i] + ")", x.push(i / 2, part, to[i]), took);
                now[i] = to[i];
                spent += took;
            }
        }
    }

    private void stickSome() {
        for (int bit = 0; bit < 2 * size; bit++) {
            if (dice.nextInt(4) == 0) {
                stuck ^= 1 << bit;
                due("stick(" + bit / 2 + ", " + bit % 2 + ")", x.stick(bit / 2, bit % 2), stuck >> bit & 1);
            }
        }
        due("count(2)", x.count(2), stuck);
    }

    private long mostOrFewest(boolean most) {
        int[] beads = now.clone();
        for (int bit = 0; bit < 2 * size; bit++) {
            if ((stuck >> bit & 1) == 0) {
                beads[bit + 1 - 2 * (bit % 2)] = !most ? 0 : bit % 2 == 0 ? low[bit / 2] : high[bit / 2];
            }
        }
        return number(beads);
    }

    /** Mostly one that can be shown; of the others such as lie close to one, or close to the bounds. */
    private int someNumber() {
        long n = number(randomBeads());
        switch (upTo(7)) {
            case 0: n += upTo(40) - 20; break;
            case 1: n = mostOrFewest(true) + upTo(600) - 300; break;
            case 2: n = mostOrFewest(false) + upTo(600) - 300; break;
            case 3: n = (long) (dice.nextDouble() * (mostOrFewest(true) + 1)); break;
            default: break;
        }
        return (int) Math.max(n, 0);
    }

    private void foretell(int n) {
        tellAll(n, now);
        due("ways(" + n + ")", x.ways(n), found);
        due("time(" + n + ")", x.time(n), best == null ? NONE : bestTime);
        for (int i = 0; i < 2 * size; i++) {
            int part = 1 - i % 2;
            due("pushed(" + n + ", " + i / 2 + ", " + part + ")", x.pushed(n, i / 2, part), best == null ? NONE : best[i]);
        }
    }

    private void set(int n) {
        tellAll(n, now);
        due("set(" + n + ")", x.set(n), best == null ? NOT : bestTime);
        if (best != null) {
            spent += bestTime;
            now = best;
        }
        dueStanding();
    }

    private void dueStanding() {
        for (int i = 0; i < 2 * size; i++) {
            due("rod(" + i / 2 + ", " + (5 - i % 2) + ")", x.rod(i / 2, 5 - i % 2), now[i]);
        }
        due("number()", x.number(), number(now));
        due("count(3)", x.count(3), spent);
    }

    private void nearest(int n) {
        long want = NONE;
        for (int off = 0; off <= 500 && want == NONE; off++) {
            if (canShow(n - off, stuck)) {
                want = n - off;
            } else if (canShow(n + off, stuck)) {
                want = n + off;
            }
        }
        due("nearest(" + n + ")", x.nearest(n), want);
    }

    private void spans() {
        due("span(0)", x.span(0), mostOrFewest(true));
        due("span(1)", x.span(1), mostOrFewest(false));
        long gap = NONE;
        for (int more = 500; more >= 1; more--) {
            gap = canShow(mostOrFewest(false) + more, stuck) ? gap : mostOrFewest(false) + more;
        }
        due("span(2)", x.span(2), gap);
    }

    private void loosen(int n) {
        int want = NONE;
        for (int set = stuck; set >= 0; set = set == 0 ? -1 : (set - 1) & stuck) {
            boolean isFewer = want == NONE || Integer.bitCount(set) < Integer.bitCount(want)
                    || Integer.bitCount(set) == Integer.bitCount(want) && set < want;
            if (isFewer && canShow(n, stuck & ~set)) {
                want = set;
            }
        }
        due("loosen(" + n + ")", x.loosen(n), want);
    }

    private void tour(int a, int b, int c) {
        int[] numbers = {a, b, c};
        if (Math.max(a, Math.max(b, c)) > 1000000) {
            return;
        }
        int least = NONE;
        int order = NONE;
        for (int o = 0; o < 6; o++) {
            int[] at = now;
            int time = 0;
            for (int i = 0; i < 3 && at != null; i++) {
                tellAll(numbers[ORDERS[o][i]], at);
                at = best;
                time += bestTime;
            }
            if (at != null && (least == NONE || time < least)) {
                least = time;
                order = o;
            }
        }
        String args = a + ", " + b + ", " + c;
        due("tour(" + args + ", 0)", x.tour(a, b, c, 0), least);
        due("tour(" + args + ", 1)", x.tour(a, b, c, 1), order);
    }

    /** Told apart from SET: of all ways of THE NUMBER those that show what a carried frame shows. */
    private void carry(int rod) {
        int[] to = null;
        if (rod + 1 < size && shows(now, rod) >= base[rod]) {
            for (int code = 0; code < 1600; code++) {
                int[] beads = now.clone();
                beads[2 * rod] = code % 4;
                beads[2 * rod + 1] = code / 4 % 10;
                beads[2 * rod + 2] = code / 40 % 4;
                beads[2 * rod + 3] = code / 160;
                if (isThere(beads, rod) && isThere(beads, rod + 1) && shows(beads, rod) == shows(now, rod) - base[rod]
                        && number(beads) == number(now) && isLess(beads, to)) {
                    to = beads;
                }
            }
        }
        due("carry(" + rod + ")", x.carry(rod), to == null ? NOT : took(now, to));
        if (to != null) {
            spent += took(now, to);
            now = to;
        }
        dueStanding();
    }

    private boolean isThere(int[] beads, int rod) {
        return beads[2 * rod] <= high[rod] && beads[2 * rod + 1] <= low[rod] && isFree(rod, 1, beads[2 * rod], now, stuck)
                && isFree(rod, 0, beads[2 * rod + 1], now, stuck);
    }

    private boolean isLess(int[] beads, int[] than) {
        int time = took(now, beads);
        return than == null || time < took(now, than) || time == took(now, than) && Arrays.compare(beads, than) < 0;
    }

    private void go() {
        makeFrame();
        for (int round = 0; round < 4; round++) {
            pushSome();
            if (round > 0) {
                stickSome();
            }
            foretell(someNumber());
            foretell(someNumber());
            spans();
            nearest(someNumber());
            loosen(number() + upTo(1));
            loosen(someNumber());
            tour(someNumber(), someNumber(), someNumber());
            carry(upTo(size - 1));
            set(someNumber());
        }
    }

    /** One that could be shown if nothing was stuck. */
    private int number() {
        int was = stuck;
        stuck = 0;
        long n = number(randomBeads());
        stuck = was;
        return (int) n;
    }

    public static void main(String[] args) {
        int runs = args.length > 0 ? Integer.parseInt(args[0]) : 300;
        long seed = args.length > 1 ? Long.parseLong(args[1]) : 8L;
        for (int i = 0; i < runs && wrong < 20; i++) {
            new BigFramesTest(seed * 1000003 + i).go();
        }
        System.out.println(checks + " answers, " + wrong + " of them not as due");
        if (wrong != 0) {
            System.exit(1);
        }
    }
}
