import java.util.Arrays;

/** Counting frames: rods of beads, pushed by hand, by least time, or by sums told in a text. */
public final class RodBeads {
    public static final int NONE = -1, UNKNOWN = -2, OUTSIDE = -3, NOT = -4, FULL = -5;

    private static final int LOW = 0, HIGH = 1;
    private static final int MOST_RODS = 6;
    private static final int MOST_UNDONE = 8;
    private static final int MOST_KEPT = 2;
    private static final int MOST_SEEN = 6;
    private static final int MOST_CLAUSES = 12;
    private static final int MOST_DIGITS = 2;
    private static final int GREATEST_NUMBER = 1000000000;
    private static final int GREATEST_OF_TOUR = 1000000;
    private static final int NEIGHBOURHOOD = 500;

    private final Text text = new Text();
    private final Sums sums = new Sums();
    private final Ways ways = new Ways();
    private final Frame frame = new Frame();
    private final Frame draft = new Frame();
    private final Standing now = new Standing();
    private final Standing trial = new Standing();
    private final Standing[] path = newStandings(3);
    private final Standing[] past = newStandings(MOST_UNDONE);
    private int pastSize = 0;
    private final Standing[] kept = newStandings(MOST_KEPT);
    private int keptBits = 0;
    private final int[] seenRod = new int[MOST_SEEN];
    private final int[] seenShown = new int[MOST_SEEN];
    private final int[] seenTime = new int[MOST_SEEN];
    private int seenSize = 0;

    public RodBeads() {
    }

    // ---- what is told

    public int write(int letter) {
        if (letter < 0 || letter > 255) {
            return OUTSIDE;
        }
        return text.add(letter) ? text.size : FULL;
    }

    public int erase() {
        int had = text.size;
        text.size = 0;
        return had;
    }

    public int fault(int what) {
        if (what == 0) {
            readDraft();
            return text.fault;
        }
        return what == 1 ? sums.check(text, frame.size) : OUTSIDE;
    }

    public int frame() {
        int clauses = readDraft();
        if (text.fault != NONE) {
            return NOT;
        }
        frame.copy(draft);
        now.begin(frame.told);
        pastSize = 0;
        keptBits = 0;
        seenSize = 0;
        text.size = 0;
        return clauses;
    }

    public int run() {
        if (sums.check(text, frame.size) != NONE) {
            return NOT;
        }
        remember();
        text.begin();
        int done = 0;
        boolean more = true;
        while (more && done < MOST_CLAUSES) {
            sums.readStatement(text, frame.size, theNumber());
            more = doStatement();
            if (more) {
                done++;
                more = text.another(done);
            }
        }
        text.size = 0;
        return done;
    }

    public int rod(int rod, int what) {
        Rod it = frame.rodAt(rod);
        if (it == null) {
            return UNKNOWN;
        }
        switch (what) {
            case 0: return it.kindNumber();
            case 1: return it.base;
            case 2: return it.lowBeads;
            case 3: return it.highBeads;
            case 4: return now.beads(rod, LOW);
            case 5: return now.beads(rod, HIGH);
            case 6: return now.isStuck(rod, LOW) ? 1 : 0;
            case 7: return now.isStuck(rod, HIGH) ? 1 : 0;
            case 8: return now.shows(rod, it);
            case 9: return it.worthOf(it.lowBeads, it.highBeads);
            default: return OUTSIDE;
        }
    }

    public long number() {
        return theNumber();
    }

    public int as(int rod, int kind) {
        Rod it = frame.rodAt(rod);
        if (it == null) {
            return UNKNOWN;
        }
        if (kind < 0 || kind > 4) {
            return OUTSIDE;
        }
        return isUnder(it, kind) ? it.highWorth() : NOT;
    }

    // ---- what is done

    public int push(int rod, int part, int n) {
        Rod it = frame.rodAt(rod);
        if (it == null || !isPart(part)) {
            return UNKNOWN;
        }
        if (n < 0 || n > it.beadsOf(part)) {
            return OUTSIDE;
        }
        if (now.isStuck(rod, part)) {
            return NOT;
        }
        remember();
        int took = Math.abs(n - now.beads(rod, part)) * it.timeOf(part);
        now.place(rod, part, n);
        now.spend(took);
        return took;
    }

    public int stick(int rod, int part) {
        if (frame.rodAt(rod) == null || !isPart(part)) {
            return UNKNOWN;
        }
        remember();
        now.stuck ^= Standing.partBit(rod, part);
        return now.isStuck(rod, part) ? 1 : 0;
    }

    public int set(int number) {
        if (!isNumber(number)) {
            return OUTSIDE;
        }
        trial.copy(now);
        return doneByTrial(settle(trial, number));
    }

    public int carry(int rod) {
        if (frame.rodAt(rod) == null) {
            return UNKNOWN;
        }
        trial.copy(now);
        return doneByTrial(carryOver(trial, rod));
    }

    public int undo() {
        if (pastSize <= 0) {
            return NOT;
        }
        pastSize--;
        now.copy(standingAt(past, pastSize));
        return pastSize;
    }

    public int keep(int k) {
        Standing place = standingAt(kept, k);
        if (place == null) {
            return UNKNOWN;
        }
        place.copy(now);
        keptBits |= 1 << k;
        return now.beadsInAll();
    }

    public int back(int k) {
        Standing place = standingAt(kept, k);
        if (place == null) {
            return UNKNOWN;
        }
        if ((keptBits & (1 << k)) == 0) {
            return NOT;
        }
        now.copy(place);
        pastSize = 0;
        return now.beadsInAll();
    }

    // ---- foretold

    public int ways(int number) {
        if (!isNumber(number)) {
            return OUTSIDE;
        }
        ways.load(frame, now, false);
        return ways.howMany(number);
    }

    public int time(int number) {
        return isNumber(number) ? leastCost(number, false) : OUTSIDE;
    }

    public int pushed(int number, int rod, int part) {
        if (frame.rodAt(rod) == null || !isPart(part)) {
            return UNKNOWN;
        }
        if (!isNumber(number)) {
            return OUTSIDE;
        }
        trial.copy(now);
        return settle(trial, number) == NONE ? NONE : trial.beads(rod, part);
    }

    public long span(int what) {
        if (what < 0 || what > 2) {
            return OUTSIDE;
        }
        ways.load(frame, now, false);
        if (what == 0) {
            return ways.mostFrom(0);
        }
        return what == 1 ? ways.fewestFrom(0) : gap(ways.fewestFrom(0));
    }

    public int nearest(int number) {
        if (!isNumber(number)) {
            return OUTSIDE;
        }
        ways.load(frame, now, false);
        return nearestShown(number);
    }

    public int loosen(int number) {
        if (!isNumber(number)) {
            return OUTSIDE;
        }
        int cost = leastCost(number, true);
        return cost == NONE ? NONE : cost & (Ways.A_PART_LOOSENED - 1);
    }

    public int tour(int a, int b, int c, int what) {
        if (!isOfTour(a) || !isOfTour(b) || !isOfTour(c) || what < 0 || what > 1) {
            return OUTSIDE;
        }
        int leastTime = Ways.FAR;
        int leastOrder = NONE;
        for (int order = 0; order < 6; order++) {
            int first = order / 2;
            int second = secondOf(order);
            if (order % 2 == 0 && !goOn(now, 0, pick(a, b, c, first))) {
                return NONE;
            }
            if (!goOn(standingAt(path, 0), 1, pick(a, b, c, second))
                    || !goOn(standingAt(path, 1), 2, pick(a, b, c, 3 - first - second))) {
                return NONE;
            }
            int took = spentOnPath();
            if (took < leastTime) {
                leastTime = took;
                leastOrder = order;
            }
        }
        return what == 0 ? leastTime : leastOrder;
    }

    // ---- what was seen

    public int seen(int rod, int v, int t) {
        if (frame.rodAt(rod) == null) {
            return UNKNOWN;
        }
        if (v < 0 || v > 40 || t < 0 || t > 99) {
            return OUTSIDE;
        }
        if (seenSize >= MOST_SEEN) {
            return FULL;
        }
        Rows.put(seenRod, seenSize, rod);
        Rows.put(seenShown, seenSize, v);
        Rows.put(seenTime, seenSize, t);
        seenSize++;
        return seenSize;
    }

    public int forget() {
        int were = seenSize;
        seenSize = 0;
        return were;
    }

    public int kinds(int rod) {
        Rod it = frame.rodAt(rod);
        if (it == null) {
            return UNKNOWN;
        }
        int bits = 0;
        for (int kind = 0; kind < 4; kind++) {
            if (fitsSeen(rod, Frame.makeRod(kind, it.base, it.lowBeads, it.highBeads))) {
                bits |= 1 << kind;
            }
        }
        return bits;
    }

    public long slips(int rod, int q, int v, int part) {
        Rod it = frame.rodAt(rod);
        if (it == null || !isPart(part)) {
            return UNKNOWN;
        }
        if (q < 0 || q > 10 || v < 0 || v > 60) {
            return OUTSIDE;
        }
        int lows = now.beads(rod, LOW);
        int highs = now.beads(rod, HIGH);
        long above = 0;
        for (int h = 0; h <= highs; h++) {
            for (int l = 0; l <= lows; l++) {
                if (it.worthOf(l, h) >= v) {
                    above += chancesToStay(lows, l, q) * chancesToStay(highs, h, q);
                }
            }
        }
        long below = power(10, lows + highs);
        long common = commonDivisor(above, below);
        if (common == 0) {
            return 0;
        }
        return part == 0 ? above / common : below / common;
    }

    public int count(int what) {
        switch (what) {
            case 0: return frame.size;
            case 1: return now.beadsInAll();
            case 2: return now.stuck;
            case 3: return now.spent;
            case 4: return seenSize;
            case 5: return pastSize;
            case 6: return text.size;
            case 7: return fullRods();
            default: return OUTSIDE;
        }
    }

    // ---- what the calls share

    private static boolean isPart(int part) {
        return part == LOW || part == HIGH;
    }

    private static boolean isNumber(int number) {
        return number >= 0 && number <= GREATEST_NUMBER;
    }

    private static boolean isOfTour(int number) {
        return number >= 0 && number <= GREATEST_OF_TOUR;
    }

    private static Standing[] newStandings(int n) {
        Standing[] row = new Standing[Math.max(n, 0)];
        for (int i = 0; i < row.length; i++) {
            row[i] = new Standing();
        }
        return row;
    }

    private static Standing standingAt(Standing[] row, int i) {
        return i >= 0 && i < row.length ? row[i] : null;
    }

    private static boolean isUnder(Rod rod, int kind) {
        switch (kind) {
            case 0: return true;
            case 1: return rod instanceof Plain;
            case 2: return rod instanceof Five;
            case 3: return rod instanceof Slow;
            case 4: return rod instanceof Heir;
            default: return false;
        }
    }

    private int readDraft() {
        draft.copy(frame);
        return draft.read(text);
    }

    private long theNumber() {
        long sum = 0;
        long place = 1;
        for (int i = 0; i < frame.size; i++) {
            Rod it = frame.rodAt(i);
            if (it != null) {
                sum += place * now.shows(i, it);
                place *= it.base;
            }
        }
        return sum;
    }

    private int fullRods() {
        int bits = 0;
        for (int i = 0; i < frame.size; i++) {
            Rod it = frame.rodAt(i);
            if (it != null && now.shows(i, it) >= it.base) {
                bits |= 1 << i;
            }
        }
        return bits;
    }

    /** What is now becomes the latest that undo() brings back; the ninth latest is lost. */
    private void remember() {
        if (pastSize >= past.length) {
            Standing oldest = past.length > 0 ? past[0] : null;
            for (int i = 1; i < past.length; i++) {
                past[i - 1] = past[i];
            }
            pastSize = past.length - 1;
            if (oldest != null) {
                past[past.length - 1] = oldest;
            }
        }
        Standing latest = standingAt(past, pastSize);
        if (latest != null) {
            latest.copy(now);
            pastSize++;
        }
    }

    private int doneByTrial(int took) {
        if (took == NONE) {
            return NOT;
        }
        remember();
        now.copy(trial);
        return took;
    }

    /** Sets a standing to a number: the time that it took, NONE if it cannot be shown. */
    private int settle(Standing standing, long number) {
        ways.load(frame, standing, false);
        int took = ways.least(number);
        if (took >= Ways.FAR) {
            return NONE;
        }
        ways.placeAll(standing);
        standing.spend(took);
        return took;
    }

    /** Carries a rod of a standing: the time that it took, NONE if it cannot be. */
    private int carryOver(Standing standing, int rod) {
        Rod here = frame.rodAt(rod);
        Rod next = frame.rodAt(rod + 1);
        if (here == null || next == null || standing.shows(rod, here) < here.base) {
            return NONE;
        }
        int left = standing.shows(rod, here) - here.base;
        int more = standing.shows(rod + 1, next) + 1;
        ways.load(frame, standing, false);
        int took = ways.costOf(rod, left) + ways.costOf(rod + 1, more);
        if (took >= Ways.FAR) {
            return NONE;
        }
        ways.placeRod(standing, rod, left);
        ways.placeRod(standing, rod + 1, more);
        standing.spend(took);
        return took;
    }

    private void pushAllBack() {
        for (int i = 0; i < frame.size; i++) {
            Rod it = frame.rodAt(i);
            for (int part = LOW; part <= HIGH && it != null; part++) {
                if (!now.isStuck(i, part)) {
                    now.spend(now.beads(i, part) * it.timeOf(part));
                    now.place(i, part, 0);
                }
            }
        }
    }

    private boolean doStatement() {
        if (!sums.possible) {
            return false;
        }
        switch (sums.verb) {
            case Sums.SET: return settle(now, sums.value) != NONE;
            case Sums.ADD: return settle(now, theNumber() + sums.value) != NONE;
            case Sums.SUB: return settle(now, theNumber() - sums.value) != NONE;
            case Sums.CARRY: return carryOver(now, (int) sums.value) != NONE;
            case Sums.CLEAR: pushAllBack(); return true;
            default: return false;
        }
    }

    private int leastCost(int number, boolean loosening) {
        ways.load(frame, now, loosening);
        int cost = ways.least(number);
        return cost >= Ways.FAR ? NONE : cost;
    }

    private int gap(int fewest) {
        ways.sift(fewest + 1, fewest + NEIGHBOURHOOD);
        for (int n = fewest + 1; n <= fewest + NEIGHBOURHOOD; n++) {
            if (!ways.isSifted(n)) {
                return n;
            }
        }
        return NONE;
    }

    private int nearestShown(int number) {
        // The bounds spare the sieve what lies beyond all that can be shown.
        int from = Math.max(number - NEIGHBOURHOOD, ways.fewestFrom(0));
        int upTo = Math.min(number + NEIGHBOURHOOD, ways.mostFrom(0));
        if (from > upTo) {
            return NONE;
        }
        if (ways.least(number) < Ways.FAR) {
            return number;
        }
        ways.sift(from, upTo);
        for (int off = 1; off <= NEIGHBOURHOOD; off++) {
            if (ways.isSifted(number - off)) {
                return number - off;
            }
            if (ways.isSifted(number + off)) {
                return number + off;
            }
        }
        return NONE;
    }

    /** The second of three numbers in an order; the orders are told in the document's row. */
    private static int secondOf(int order) {
        int first = order / 2;
        int lesser = first == 0 ? 1 : 0;
        int greater = first == 2 ? 1 : 2;
        return order % 2 == 0 ? lesser : greater;
    }

    private static int pick(int a, int b, int c, int which) {
        if (which == 0) {
            return a;
        }
        return which == 1 ? b : c;
    }

    private boolean goOn(Standing from, int step, int number) {
        Standing to = standingAt(path, step);
        if (from == null || to == null) {
            return false;
        }
        to.copy(from);
        if (step == 0) {
            to.spent = 0;
        }
        return settle(to, number) != NONE;
    }

    private int spentOnPath() {
        Standing last = standingAt(path, path.length - 1);
        return last == null ? Ways.FAR : last.spent;
    }

    private boolean fitsSeen(int rod, Rod trialRod) {
        for (int i = 0; i < seenSize; i++) {
            if (Rows.at(seenRod, i) == rod
                    && trialRod.leastTimeFor(Rows.at(seenShown, i)) != Rows.at(seenTime, i)) {
                return false;
            }
        }
        return true;
    }

    /** In how many of 10 to the power of n cases just so many of n beads stay, if q of ten slip. */
    private static long chancesToStay(int n, int stay, int q) {
        long choices = 1;
        for (int i = 0; i < stay; i++) {
            choices = choices * (n - i) / (i + 1);
        }
        return choices * power(10 - q, stay) * power(q, n - stay);
    }

    private static long power(long base, int exponent) {
        long product = 1;
        for (int i = 0; i < exponent; i++) {
            product *= base;
        }
        return product;
    }

    private static long commonDivisor(long a, long b) {
        long greater = a;
        long lesser = b;
        for (int i = 0; i < 200 && lesser != 0; i++) {
            long rest = greater % lesser;
            greater = lesser;
            lesser = rest;
        }
        return greater;
    }

    /** Rows of numbers, read and written within their bounds alone. */
    private static final class Rows {
        static int at(int[] row, int i) {
            return i >= 0 && i < row.length ? row[i] : 0;
        }

        static void put(int[] row, int i, int value) {
            if (i >= 0 && i < row.length) {
                row[i] = value;
            }
        }
    }

    /** A rod as it was told: what it is made of, not how its beads stand. */
    private abstract static class Rod {
        final int base;
        final int lowBeads;
        final int highBeads;

        Rod(int base, int lowBeads, int highBeads) {
            this.base = base;
            this.lowBeads = lowBeads;
            this.highBeads = highBeads;
        }

        abstract int kindNumber();

        abstract int highWorth();

        int lowTime() {
            return 1;
        }

        int highTime() {
            return 1;
        }

        final int beadsOf(int part) {
            return part == HIGH ? highBeads : lowBeads;
        }

        final int timeOf(int part) {
            return part == HIGH ? highTime() : lowTime();
        }

        final int worthOf(int lows, int highs) {
            return lows + highs * highWorth();
        }

        /** The least time to show v from nothing pushed, nothing stuck; NONE if it cannot. */
        final int leastTimeFor(int v) {
            int least = NONE;
            for (int h = 0; h <= highBeads; h++) {
                int l = v - h * highWorth();
                int took = l * lowTime() + h * highTime();
                if (l >= 0 && l <= lowBeads && (least == NONE || took < least)) {
                    least = took;
                }
            }
            return least;
        }
    }

    private static final class Plain extends Rod {
        Plain(int base, int lowBeads) {
            super(base, lowBeads, 0);
        }

        int kindNumber() {
            return 0;
        }

        int highWorth() {
            return 0;
        }
    }

    private static class Five extends Rod {
        Five(int base, int lowBeads, int highBeads) {
            super(base, lowBeads, highBeads);
        }

        int kindNumber() {
            return 1;
        }

        int highWorth() {
            return 5;
        }
    }

    private static final class Slow extends Five {
        Slow(int base, int lowBeads, int highBeads) {
            super(base, lowBeads, highBeads);
        }

        int kindNumber() {
            return 2;
        }

        int lowTime() {
            return 2;
        }

        int highTime() {
            return 2;
        }
    }

    private static final class Heir extends Five {
        Heir(int base, int lowBeads, int highBeads) {
            super(base, lowBeads, highBeads);
        }

        int kindNumber() {
            return 3;
        }

        int highWorth() {
            return lowBeads + 1;
        }

        int highTime() {
            return 3;
        }
    }

    /** How the beads stand, and the time spent so far: what undo() and back() bring back. */
    private static final class Standing {
        static final int MOST_TIME = 1000000;

        private final int[] low = new int[MOST_RODS];
        private final int[] high = new int[MOST_RODS];
        int stuck = 0;
        int spent = 0;

        void begin(int stuckParts) {
            Arrays.fill(low, 0);
            Arrays.fill(high, 0);
            stuck = stuckParts;
            spent = 0;
        }

        void copy(Standing other) {
            if (other == null) {
                return;
            }
            for (int i = 0; i < MOST_RODS; i++) {
                Rows.put(low, i, Rows.at(other.low, i));
                Rows.put(high, i, Rows.at(other.high, i));
            }
            stuck = other.stuck;
            spent = other.spent;
        }

        int beads(int rod, int part) {
            return Rows.at(part == HIGH ? high : low, rod);
        }

        void place(int rod, int part, int n) {
            Rows.put(part == HIGH ? high : low, rod, n);
        }

        static int partBit(int rod, int part) {
            return 1 << (2 * rod + part);
        }

        boolean isStuck(int rod, int part) {
            return (stuck & partBit(rod, part)) != 0;
        }

        int shows(int rod, Rod it) {
            return it.worthOf(beads(rod, LOW), beads(rod, HIGH));
        }

        int beadsInAll() {
            int sum = 0;
            for (int i = 0; i < MOST_RODS; i++) {
                sum += beads(i, LOW) + beads(i, HIGH);
            }
            return sum;
        }

        void spend(int took) {
            spent = Math.min(spent + took, MOST_TIME);
        }
    }

    /** THE TEXT, and the token of it that is being read. */
    private static final class Text {
        private static final int MOST_LETTERS = 160;

        private final int[] letters = new int[MOST_LETTERS];
        int size = 0;
        int fault = NONE;
        private int start = 0;
        private int stop = 0;
        private boolean isNumber = false;

        boolean add(int letter) {
            if (size >= MOST_LETTERS) {
                return false;
            }
            Rows.put(letters, size, letter);
            size++;
            return true;
        }

        void begin() {
            fault = NONE;
            stop = 0;
            step();
        }

        /** Goes to the next token; at the end of the text it starts and stops there. */
        void step() {
            int i = stop;
            while (i < size && letterAt(i) == ' ') {
                i++;
            }
            start = i;
            isNumber = i < size && isDigit(letterAt(i));
            boolean isWord = i < size && isSmall(letterAt(i));
            i = Math.min(i + 1, size);
            while (i < size && (isNumber && isDigit(letterAt(i)) || isWord && isSmall(letterAt(i)))) {
                i++;
            }
            stop = i;
        }

        private int letterAt(int i) {
            return i >= 0 && i < letters.length ? letters[i] : 0;
        }

        private static boolean isSmall(int letter) {
            return letter >= 'a' && letter <= 'z';
        }

        private static boolean isDigit(int letter) {
            return letter >= '0' && letter <= '9';
        }

        boolean isSound() {
            return fault == NONE;
        }

        /** The first fault stays. */
        void fail() {
            if (fault == NONE) {
                fault = start;
            }
        }

        boolean isAtEnd() {
            return start >= size;
        }

        boolean isSign(char sign) {
            return start < size && letterAt(start) == sign;
        }

        boolean isWord(String word) {
            if (stop - start != word.length()) {
                return false;
            }
            for (int i = 0; i < word.length(); i++) {
                if (letterAt(start + i) != word.charAt(i)) {
                    return false;
                }
            }
            return true;
        }

        /** Reads a number; a token that is none, has more digits or is out of its bounds is a fault. */
        int takeNumber(int mostDigits, int least, int greatest) {
            boolean fits = isSound() && isNumber && stop - start <= mostDigits;
            int value = 0;
            for (int i = start; i < stop && fits; i++) {
                value = value * 10 + (letterAt(i) - '0');
            }
            if (!fits || value < least || value > greatest) {
                fail();
                return 0;
            }
            step();
            return value;
        }

        /** Behind a clause or statement: whether one more follows; if not, the text must end. */
        boolean another(int soFar) {
            if (!isSound() || isAtEnd()) {
                return false;
            }
            if (soFar < MOST_CLAUSES && isSign(';')) {
                step();
                return true;
            }
            fail();
            return false;
        }
    }

    /** The rods that texts have told, and which of their parts they told to be stuck. */
    private static final class Frame {
        private final Rod[] rods = new Rod[MOST_RODS];
        int size = 0;
        int told = 0;

        Rod rodAt(int i) {
            return i >= 0 && i < size && i < rods.length ? rods[i] : null;
        }

        void copy(Frame other) {
            for (int i = 0; i < rods.length; i++) {
                rods[i] = other.rodAt(i);
            }
            size = other.size;
            told = other.told;
        }

        /** Does the text's clauses up to its first fault: how many were begun. */
        int read(Text text) {
            text.begin();
            int clauses = 0;
            boolean more = true;
            while (more && clauses < MOST_CLAUSES) {
                readClause(text);
                clauses++;
                more = text.another(clauses);
            }
            return clauses;
        }

        private void readClause(Text text) {
            if (text.isWord("frame")) {
                text.step();
                size = 0;
                told = 0;
            } else if (text.isWord("stuck")) {
                text.step();
                int rod = text.takeNumber(MOST_DIGITS, 0, size - 1);
                int part = text.takeNumber(MOST_DIGITS, 0, 1);
                if (text.isSound()) {
                    told |= Standing.partBit(rod, part);
                }
            } else {
                readRod(text, kindTold(text));
            }
        }

        private static int kindTold(Text text) {
            if (text.isWord("plain")) {
                return 0;
            }
            if (text.isWord("five")) {
                return 1;
            }
            if (text.isWord("slow")) {
                return 2;
            }
            return text.isWord("heir") ? 3 : NONE;
        }

        private void readRod(Text text, int kind) {
            if (kind == NONE || size >= rods.length) {
                text.fail();
                return;
            }
            text.step();
            int base = text.takeNumber(MOST_DIGITS, 2, 16);
            int lowBeads = text.takeNumber(MOST_DIGITS, 1, 9);
            int highBeads = kind == 0 ? 0 : text.takeNumber(MOST_DIGITS, 0, 3);
            if (text.isSound()) {
                rods[size] = makeRod(kind, base, lowBeads, highBeads);
                size++;
            }
        }

        static Rod makeRod(int kind, int base, int lowBeads, int highBeads) {
            switch (kind) {
                case 1: return new Five(base, lowBeads, highBeads);
                case 2: return new Slow(base, lowBeads, highBeads);
                case 3: return new Heir(base, lowBeads, highBeads);
                default: return new Plain(base, lowBeads);
            }
        }
    }

    /** Reads sums, a statement at a time. */
    private static final class Sums {
        static final int SET = 0, ADD = 1, SUB = 2, CLEAR = 3, CARRY = 4;
        private static final int MOST_DEPTH = 6;
        private static final int MOST_STEPS = 160;
        private static final long GREATEST_STEP = 1000000000000L;

        int verb = CLEAR;
        long value = 0;
        boolean possible = true;
        private long theNumber = 0;

        /** The place of the first fault of the text; NONE. */
        int check(Text text, int rods) {
            text.begin();
            int statements = 0;
            boolean more = true;
            while (more && statements < MOST_CLAUSES) {
                readStatement(text, rods, 0);
                statements++;
                more = text.another(statements);
            }
            return text.fault;
        }

        void readStatement(Text text, int rods, long numberThen) {
            theNumber = numberThen;
            value = 0;
            possible = true;
            verb = verbTold(text);
            if (verb == NONE) {
                text.fail();
                return;
            }
            text.step();
            if (verb == CARRY) {
                value = text.takeNumber(MOST_DIGITS, 0, rods - 1);
            } else if (verb != CLEAR) {
                value = expression(text, 0);
            }
        }

        private static int verbTold(Text text) {
            if (text.isWord("set")) {
                return SET;
            }
            if (text.isWord("add")) {
                return ADD;
            }
            if (text.isWord("sub")) {
                return SUB;
            }
            if (text.isWord("clear")) {
                return CLEAR;
            }
            return text.isWord("carry") ? CARRY : NONE;
        }

        /** The terms are gathered into the sum, the parts of the latest term into the product. */
        private long expression(Text text, int depth) {
            long sum = 0;
            boolean isLess = false;
            long product = part(text, depth);
            for (int i = 0; i < MOST_STEPS && text.isSound(); i++) {
                if (text.isSign('*')) {
                    text.step();
                    product = multiplied(product, part(text, depth));
                } else if (text.isSign('/')) {
                    text.step();
                    product = divided(product, part(text, depth));
                } else if (text.isSign('+') || text.isSign('-')) {
                    sum = bounded(isLess ? sum - product : sum + product);
                    isLess = text.isSign('-');
                    text.step();
                    product = part(text, depth);
                } else {
                    break;
                }
            }
            return bounded(isLess ? sum - product : sum + product);
        }

        private long part(Text text, int depth) {
            if (text.isSign('#')) {
                text.step();
                return theNumber;
            }
            if (!text.isSign('(')) {
                return text.takeNumber(7, 0, GREATEST_NUMBER);
            }
            if (depth >= MOST_DEPTH) {
                text.fail();
                return 0;
            }
            text.step();
            long inner = expression(text, depth + 1);
            if (text.isSound() && text.isSign(')')) {
                text.step();
            } else {
                text.fail();
            }
            return inner;
        }

        private long bounded(long step) {
            if (step > GREATEST_STEP || step < -GREATEST_STEP) {
                possible = false;
                return 0;
            }
            return step;
        }

        private long multiplied(long a, long b) {
            // The product itself might not fit into a long.
            if (b != 0 && Math.abs(a) > GREATEST_STEP / Math.abs(b)) {
                possible = false;
                return 0;
            }
            return a * b;
        }

        private long divided(long a, long b) {
            if (b == 0) {
                possible = false;
                return 0;
            }
            return a / b;
        }
    }

    /**
     * What can be shown, and at what cost. A cost is a time, or, when parts may be loosened,
     * A_PART_LOOSENED for each and its bit: so the least cost is the fewest parts, of as few
     * the least set. Costs of rods add up, so a rod's choice hangs only on what is left for
     * the rods behind it, and of that there are fewer than SHOWN cases for each rod.
     */
    private static final class Ways {
        static final int FAR = 1 << 20;
        static final int A_PART_LOOSENED = 1 << (2 * MOST_RODS);
        /** A rod shows 39 at most: an heir's 9 low beads and 3 high ones of 10. */
        private static final int SHOWN = 40;
        private static final int SIEVE = 1024;

        private final int[] cost = new int[MOST_RODS * SHOWN];
        private final int[] highs = new int[MOST_RODS * SHOWN];
        private final int[] choices = new int[MOST_RODS * SHOWN];
        private final int[] bases = new int[MOST_RODS];
        private final int[] worths = new int[MOST_RODS];
        private final int[] most = new int[MOST_RODS + 1];
        private final int[] fewest = new int[MOST_RODS + 1];
        private final int[] known = new int[MOST_RODS * SHOWN];
        private final int[] top = new int[MOST_RODS];
        private final int[] sieveFrom = new int[MOST_RODS + 1];
        private final int[] sieveUpTo = new int[MOST_RODS + 1];
        private final int[] evenSieve = new int[SIEVE];
        private final int[] oddSieve = new int[SIEVE];
        private int size = 0;

        /** Takes in a frame and how it stands; loosening: stuck parts may move, at their cost. */
        void load(Frame frame, Standing standing, boolean loosening) {
            size = Math.min(frame.size, MOST_RODS);
            Arrays.fill(cost, FAR);
            Arrays.fill(choices, 0);
            Rows.put(most, size, 0);
            Rows.put(fewest, size, 0);
            for (int i = size - 1; i >= 0; i--) {
                Rod it = frame.rodAt(i);
                if (it != null) {
                    loadRod(i, it, standing, loosening);
                    loadBounds(i, it.base);
                }
            }
        }

        private void loadRod(int i, Rod it, Standing standing, boolean loosening) {
            Rows.put(bases, i, it.base);
            Rows.put(worths, i, it.highWorth());
            for (int h = 0; h <= it.highBeads; h++) {
                int highPrice = price(i, it, HIGH, h, standing, loosening);
                for (int l = 0; l <= it.lowBeads && highPrice < FAR; l++) {
                    int lowPrice = price(i, it, LOW, l, standing, loosening);
                    if (lowPrice < FAR) {
                        addChoice(slot(i, it.worthOf(l, h)), h, highPrice + lowPrice);
                    }
                }
            }
        }

        private static int price(int i, Rod it, int part, int n, Standing standing, boolean loosening) {
            int off = Math.abs(n - standing.beads(i, part));
            boolean isStuck = standing.isStuck(i, part);
            if (loosening) {
                return isStuck && off > 0 ? A_PART_LOOSENED + Standing.partBit(i, part) : 0;
            }
            return isStuck && off > 0 ? FAR : off * it.timeOf(part);
        }

        /** High beads come in rising numbers, so of equal costs that of the fewest stays. */
        private void addChoice(int slot, int h, int price) {
            Rows.put(choices, slot, Rows.at(choices, slot) + 1);
            if (slot >= 0 && price < Rows.at(cost, slot)) {
                Rows.put(cost, slot, price);
                Rows.put(highs, slot, h);
            }
        }

        private void loadBounds(int i, int base) {
            int least = SHOWN;
            int greatest = 0;
            for (int s = 0; s < SHOWN; s++) {
                if (costOf(i, s) < FAR) {
                    least = Math.min(least, s);
                    greatest = s;
                }
            }
            Rows.put(most, i, greatest + base * mostFrom(i + 1));
            Rows.put(fewest, i, least + base * fewestFrom(i + 1));
        }

        private static int slot(int i, int s) {
            return s >= 0 && s < SHOWN ? i * SHOWN + s : NONE;
        }

        int costOf(int i, int s) {
            int slot = slot(i, s);
            return slot == NONE ? FAR : Rows.at(cost, slot);
        }

        /** The greatest number that a rod and those behind it can show, the rod counted once. */
        int mostFrom(int i) {
            return Rows.at(most, i);
        }

        int fewestFrom(int i) {
            return Rows.at(fewest, i);
        }

        private int baseOf(int i) {
            return Math.max(Rows.at(bases, i), 2);
        }

        /** The least cost of a number; FAR or more if it cannot be shown. */
        int least(long number) {
            if (number < fewestFrom(0) || number > mostFrom(0)) {
                return FAR;
            }
            aim((int) number);
            return leastFrom(0, (int) number);
        }

        int howMany(long number) {
            if (number < fewestFrom(0) || number > mostFrom(0)) {
                return 0;
            }
            aim((int) number);
            return howManyFrom(0, (int) number);
        }

        /** Nothing is known yet; top: the most that may be left of the number for each rod. */
        private void aim(int number) {
            Arrays.fill(known, NONE);
            int left = number;
            for (int i = 0; i < size; i++) {
                Rows.put(top, i, left);
                left /= baseOf(i);
            }
        }

        private boolean isInReach(int i, int left) {
            return left >= Rows.at(fewest, i) && left <= Rows.at(most, i);
        }

        /** The least cost by which rod i and those behind it show what is left. */
        private int leastFrom(int i, int left) {
            if (i >= size || !isInReach(i, left)) {
                return i >= size && left == 0 ? 0 : FAR;
            }
            int slot = slot(i, Rows.at(top, i) - left);
            if (slot != NONE && Rows.at(known, slot) != NONE) {
                return Rows.at(known, slot);
            }
            int base = baseOf(i);
            int best = FAR;
            for (int s = left % base; s <= left && s < SHOWN; s += base) {
                int here = costOf(i, s);
                if (here < best) {
                    best = Math.min(best, here + leastFrom(i + 1, (left - s) / base));
                }
            }
            Rows.put(known, slot, best);
            return best;
        }

        private int howManyFrom(int i, int left) {
            if (i >= size || !isInReach(i, left)) {
                return i >= size && left == 0 ? 1 : 0;
            }
            int slot = slot(i, Rows.at(top, i) - left);
            if (slot != NONE && Rows.at(known, slot) != NONE) {
                return Rows.at(known, slot);
            }
            int base = baseOf(i);
            int sum = 0;
            for (int s = left % base; s <= left && s < SHOWN; s += base) {
                int here = Rows.at(choices, slot(i, s));
                if (here > 0) {
                    sum += here * howManyFrom(i + 1, (left - s) / base);
                }
            }
            Rows.put(known, slot, sum);
            return sum;
        }

        /** Places the beads by the way of the number that least() was asked for last. */
        void placeAll(Standing standing) {
            int left = size > 0 ? Rows.at(top, 0) : 0;
            for (int i = 0; i < size; i++) {
                int s = shownByWay(i, left);
                placeRod(standing, i, s);
                left = (left - s) / baseOf(i);
            }
        }

        private int shownByWay(int i, int left) {
            int goal = leastFrom(i, left);
            int base = baseOf(i);
            int chosen = 0;
            int fewestHighs = SHOWN;
            int fewestLows = SHOWN;
            for (int s = left % base; s <= left && s < SHOWN; s += base) {
                int here = costOf(i, s);
                int h = Rows.at(highs, slot(i, s));
                int l = s - h * Rows.at(worths, i);
                boolean isFewer = h < fewestHighs || h == fewestHighs && l < fewestLows;
                if (here < FAR && isFewer && here + leastFrom(i + 1, (left - s) / base) == goal) {
                    chosen = s;
                    fewestHighs = h;
                    fewestLows = l;
                }
            }
            return chosen;
        }

        void placeRod(Standing standing, int i, int s) {
            int h = Rows.at(highs, slot(i, s));
            standing.place(i, HIGH, h);
            standing.place(i, LOW, s - h * Rows.at(worths, i));
        }

        /** Finds out which numbers of a row, of 1001 at most, can be shown. */
        void sift(int from, int upTo) {
            Rows.put(sieveFrom, 0, Math.max(from, 0));
            Rows.put(sieveUpTo, 0, upTo);
            for (int i = 0; i < size; i++) {
                int least = Math.max(Rows.at(sieveFrom, i) - (SHOWN - 1), 0);
                Rows.put(sieveFrom, i + 1, least / baseOf(i));
                Rows.put(sieveUpTo, i + 1, Rows.at(sieveUpTo, i) / baseOf(i));
            }
            for (int i = size; i >= 0; i--) {
                siftFrom(i);
            }
        }

        private void siftFrom(int i) {
            int[] sieve = sieveOf(i);
            int from = Rows.at(sieveFrom, i);
            int upTo = Math.min(Rows.at(sieveUpTo, i), from + SIEVE - 1);
            for (int n = from; n <= upTo; n++) {
                boolean can = i >= size ? n == 0 : canShow(i, n);
                Rows.put(sieve, n - from, can ? 1 : 0);
            }
        }

        private boolean canShow(int i, int n) {
            if (!isInReach(i, n)) {
                return false;
            }
            int base = baseOf(i);
            for (int s = n % base; s <= n && s < SHOWN; s += base) {
                if (costOf(i, s) < FAR && isSiftedFrom(i + 1, (n - s) / base)) {
                    return true;
                }
            }
            return false;
        }

        /** Only two rows are kept: what a rod can show needs only the next one's. */
        private int[] sieveOf(int i) {
            return i % 2 == 0 ? evenSieve : oddSieve;
        }

        private boolean isSiftedFrom(int i, int n) {
            boolean isInside = n >= Rows.at(sieveFrom, i) && n <= Rows.at(sieveUpTo, i);
            return isInside && Rows.at(sieveOf(i), n - Rows.at(sieveFrom, i)) == 1;
        }

        boolean isSifted(int n) {
            return isSiftedFrom(0, n);
        }
    }
}
