import java.util.ArrayList;
import java.util.List;

/**
 * "Refused, and nothing changes: .. the first of these that fits." Every way in which a call can be
 * refused, on objects that are new, busy, full: the answer, and that all is as it was behind it, also
 * what undo(), back(), run(), frame() would bring. Of calls that only tell or foretell, likewise.
 */
public final class RefusedTest {
    private static final int UNKNOWN = -2, OUTSIDE = -3, NOT = -4, FULL = -5;
    private static int wrong = 0;
    private static int checks = 0;

    private interface Call {
        long on(RodBeads x);
    }

    private interface Making {
        void of(RodBeads x);
    }

    /** How an object is brought to where a call is tried, and all that can be seen of it there. */
    private static final class State {
        final String name;
        final Making making;
        final String tracks;

        State(String name, Making making) {
            this.name = name;
            this.making = making;
            this.tracks = tracksBehind(making, null);
        }

        RodBeads made() {
            RodBeads x = new RodBeads();
            making.of(x);
            return x;
        }
    }

    private static void write(RodBeads x, String text) {
        for (int i = 0; i < text.length(); i++) {
            x.write(text.charAt(i));
        }
    }

    private static void frame(RodBeads x, String text) {
        write(x, text);
        if (x.frame() < 1) {
            throw new IllegalStateException("no frame: " + text);
        }
    }

    private static String padded(String text) {
        return text + " ".repeat(160 - text.length());
    }

    // ---- what can be seen

    private static void look(RodBeads x, StringBuilder out) {
        out.append("n").append(x.number());
        for (int what = 0; what < 8; what++) {
            out.append(" ").append(x.count(what));
        }
        for (int what = 0; what < 2; what++) {
            out.append(" f").append(x.fault(what)).append(" s").append(x.span(what));
        }
        for (int rod = 0; rod < x.count(0); rod++) {
            out.append(" k").append(x.kinds(rod)).append(" r");
            for (int what = 0; what < 10; what++) {
                out.append(x.rod(rod, what)).append(",");
            }
        }
        out.append("\n");
    }

    private static void lookAtBeads(RodBeads x, StringBuilder out) {
        out.append("n").append(x.number()).append(" p").append(x.count(1)).append(" s").append(x.count(2));
        out.append(" t").append(x.count(3)).append(" b").append(x.count(7)).append("\n");
    }

    /** All that an object lets see behind a call; each thing that changes it on an object of its own. */
    private static String tracksBehind(Making making, Call call) {
        StringBuilder out = new StringBuilder();
        for (int turn = 0; turn < 6; turn++) {
            RodBeads x = new RodBeads();
            making.of(x);
            if (call != null) {
                call.on(x);
            }
            if (turn == 1) {
                for (int i = 0; i < 9; i++) {
                    out.append("undo ").append(x.undo()).append(" ");
                    lookAtBeads(x, out);
                }
            } else if (turn > 1) {
                long answer = turn < 4 ? x.back(turn - 2) : turn == 4 ? x.run() : x.frame();
                out.append("turn ").append(turn).append(" ").append(answer).append(" ");
            }
            look(x, out);
        }
        return out.toString();
    }

    private static void complain(State state, String call, String what) {
        wrong++;
        System.out.println(state.name + ": " + call + " " + what);
    }

    private static void refused(State state, long want, String call, Call it) {
        checks++;
        long got = it.on(state.made());
        if (got != want) {
            complain(state, call, "answered " + got + ", due is " + want);
        }
        if (!tracksBehind(state.making, it).equals(state.tracks)) {
            complain(state, call, "changed something");
        }
    }

    private static void changesNothing(State state, String call, Call it) {
        checks++;
        long got = it.on(state.made());
        if (got == UNKNOWN || got == OUTSIDE || got == NOT || got == FULL) {
            complain(state, call, "was refused");
        }
        if (!tracksBehind(state.making, it).equals(state.tracks)) {
            complain(state, call, "changed something");
        }
    }

    /** The numbers next to a row's ends, and the farthest off. */
    private static int[] off(int least, int greatest) {
        return new int[] {least - 1, greatest + 1, Integer.MIN_VALUE, Integer.MAX_VALUE};
    }

    // ---- UNKNOWN, OUTSIDE, whatever the state is

    private static void noSuchRod(State state) {
        for (int r : off(0, state.made().count(0) - 1)) {
            for (int bad : new int[] {0, -1, 99}) {
                String told = "(" + r + ", " + bad + " ..)";
                refused(state, UNKNOWN, "rod" + told, x -> x.rod(r, bad));
                refused(state, UNKNOWN, "as" + told, x -> x.as(r, bad));
                refused(state, UNKNOWN, "push" + told, x -> x.push(r, bad, bad));
                refused(state, UNKNOWN, "push.." + told, x -> x.push(r, 0, bad));
                refused(state, UNKNOWN, "stick" + told, x -> x.stick(r, bad));
                refused(state, UNKNOWN, "pushed" + told, x -> x.pushed(bad, r, 0));
                refused(state, UNKNOWN, "seen" + told, x -> x.seen(r, bad, bad));
                refused(state, UNKNOWN, "slips" + told, x -> x.slips(r, bad, bad, 0));
            }
            refused(state, UNKNOWN, "carry(" + r + ")", x -> x.carry(r));
            refused(state, UNKNOWN, "kinds(" + r + ")", x -> x.kinds(r));
        }
    }

    private static void noSuchPart(State state) {
        int rods = state.made().count(0);
        for (int part : off(0, 1)) {
            for (int r = 0; r < rods; r++) {
                int rod = r;
                String told = "(" + rod + ", part " + part + ")";
                refused(state, UNKNOWN, "push" + told, x -> x.push(rod, part, 0));
                refused(state, UNKNOWN, "push.." + told, x -> x.push(rod, part, 99));
                refused(state, UNKNOWN, "stick" + told, x -> x.stick(rod, part));
                refused(state, UNKNOWN, "pushed" + told, x -> x.pushed(0, rod, part));
                refused(state, UNKNOWN, "pushed.." + told, x -> x.pushed(-1, rod, part));
                refused(state, UNKNOWN, "slips" + told, x -> x.slips(rod, 0, 0, part));
                refused(state, UNKNOWN, "slips.." + told, x -> x.slips(rod, 11, 61, part));
            }
            refused(state, UNKNOWN, "keep(" + part + ")", x -> x.keep(part));
            refused(state, UNKNOWN, "back(" + part + ")", x -> x.back(part));
        }
    }

    private static void outsideOfRods(State state) {
        RodBeads seen = state.made();
        for (int r = 0; r < seen.count(0); r++) {
            int rod = r;
            for (int part = 0; part < 2; part++) {
                int p = part;
                for (int n : off(0, seen.rod(rod, 2 + part))) {
                    refused(state, OUTSIDE, "push(" + rod + ", " + p + ", " + n + ")", x -> x.push(rod, p, n));
                }
                for (int n : off(0, 1000000000)) {
                    refused(state, OUTSIDE, "pushed(" + n + ", " + rod + ", " + p + ")", x -> x.pushed(n, rod, p));
                }
                for (int q : off(0, 10)) {
                    refused(state, OUTSIDE, "slips(" + rod + ", " + q + ", 0, " + p + ")", x -> x.slips(rod, q, 0, p));
                }
                for (int v : off(0, 60)) {
                    refused(state, OUTSIDE, "slips(" + rod + ", 0, " + v + ", " + p + ")", x -> x.slips(rod, 0, v, p));
                }
            }
            for (int what : off(0, 9)) {
                refused(state, OUTSIDE, "rod(" + rod + ", " + what + ")", x -> x.rod(rod, what));
            }
            for (int kind : off(0, 4)) {
                refused(state, OUTSIDE, "as(" + rod + ", " + kind + ")", x -> x.as(rod, kind));
            }
            for (int v : off(0, 40)) {
                refused(state, OUTSIDE, "seen(" + rod + ", " + v + ", 0)", x -> x.seen(rod, v, 0));
            }
            for (int t : off(0, 99)) {
                refused(state, OUTSIDE, "seen(" + rod + ", 0, " + t + ")", x -> x.seen(rod, 0, t));
            }
        }
    }

    private static void outside(State state) {
        for (int n : off(0, 1000000000)) {
            refused(state, OUTSIDE, "set(" + n + ")", x -> x.set(n));
            refused(state, OUTSIDE, "ways(" + n + ")", x -> x.ways(n));
            refused(state, OUTSIDE, "time(" + n + ")", x -> x.time(n));
            refused(state, OUTSIDE, "nearest(" + n + ")", x -> x.nearest(n));
            refused(state, OUTSIDE, "loosen(" + n + ")", x -> x.loosen(n));
        }
        for (int n : off(0, 1000000)) {
            for (int what = 0; what < 2; what++) {
                int w = what;
                refused(state, OUTSIDE, "tour(" + n + ", 0, 0, ..)", x -> x.tour(n, 0, 0, w));
                refused(state, OUTSIDE, "tour(0, " + n + ", 0, ..)", x -> x.tour(0, n, 0, w));
                refused(state, OUTSIDE, "tour(0, 0, " + n + ", ..)", x -> x.tour(0, 0, n, w));
                // The one of them that cannot be shown: NONE comes behind the refusals.
                refused(state, OUTSIDE, "tour(999999, 999999, " + n + ", ..)", x -> x.tour(999999, 999999, n, w));
            }
        }
        for (int what : off(0, 1)) {
            refused(state, OUTSIDE, "tour(0, 0, 0, " + what + ")", x -> x.tour(0, 0, 0, what));
            refused(state, OUTSIDE, "tour(999999, 0, 0, " + what + ")", x -> x.tour(999999, 0, 0, what));
            refused(state, OUTSIDE, "fault(" + what + ")", x -> x.fault(what));
        }
        for (int what : off(0, 2)) {
            refused(state, OUTSIDE, "span(" + what + ")", x -> x.span(what));
        }
        for (int what : off(0, 7)) {
            refused(state, OUTSIDE, "count(" + what + ")", x -> x.count(what));
        }
        for (int letter : off(0, 255)) {
            refused(state, OUTSIDE, "write(" + letter + ")", x -> x.write(letter));
        }
    }

    private static void everyState(State state) {
        noSuchRod(state);
        noSuchPart(state);
        outsideOfRods(state);
        outside(state);
        tellsAndForetells(state);
    }

    // ---- FORETOLD (nothing changes), and what only tells

    private static void tellsAndForetells(State state) {
        int rods = state.made().count(0);
        for (int what = 0; what < 8; what++) {
            int w = what;
            changesNothing(state, "count(" + w + ")", x -> x.count(w));
        }
        changesNothing(state, "number()", x -> x.number());
        changesNothing(state, "fault(0)", x -> x.fault(0));
        changesNothing(state, "fault(1)", x -> x.fault(1));
        for (int what = 0; what < 3; what++) {
            int w = what;
            changesNothing(state, "span(" + w + ")", x -> x.span(w));
        }
        for (int n : new int[] {0, 1, 7, 39, 1000, 1000000, 1000000000}) {
            changesNothing(state, "ways(" + n + ")", x -> x.ways(n));
            changesNothing(state, "time(" + n + ")", x -> x.time(n));
            changesNothing(state, "nearest(" + n + ")", x -> x.nearest(n));
            changesNothing(state, "loosen(" + n + ")", x -> x.loosen(n));
            if (n <= 1000000) {
                changesNothing(state, "tour(" + n + ", 0, 5, 0)", x -> x.tour(n, 0, 5, 0));
                changesNothing(state, "tour(3, " + n + ", 5, 1)", x -> x.tour(3, n, 5, 1));
            }
            for (int r = 0; r < rods; r++) {
                int rod = r;
                changesNothing(state, "pushed(" + n + ", " + rod + ", 0)", x -> x.pushed(n, rod, 0));
                changesNothing(state, "pushed(" + n + ", " + rod + ", 1)", x -> x.pushed(n, rod, 1));
            }
        }
        for (int r = 0; r < rods; r++) {
            int rod = r;
            changesNothing(state, "as(" + rod + ", 0)", x -> x.as(rod, 0));
            changesNothing(state, "kinds(" + rod + ")", x -> x.kinds(rod));
            changesNothing(state, "slips(" + rod + ", 3, 5, 1)", x -> x.slips(rod, 3, 5, 1));
            for (int what = 0; what < 10; what++) {
                int w = what;
                changesNothing(state, "rod(" + rod + ", " + w + ")", x -> x.rod(rod, w));
            }
        }
    }

    // ---- NOT, FULL: states in which a call cannot be done now

    private static void newObject() {
        State state = new State("new", x -> { });
        everyState(state);
        refused(state, NOT, "frame() of no text", x -> x.frame());
        refused(state, NOT, "run() of no text", x -> x.run());
        refused(state, NOT, "set(1), no RODS", x -> x.set(1));
        refused(state, NOT, "set(1000000000), no RODS", x -> x.set(1000000000));
        refused(state, NOT, "undo()", x -> x.undo());
        refused(state, NOT, "back(0)", x -> x.back(0));
        refused(state, NOT, "back(1)", x -> x.back(1));
    }

    private static void busyObject() {
        State state = new State("busy", x -> {
            frame(x, "five 3 4 1;heir 4 3 1;plain 2 9;stuck 2 0");
            x.push(0, 0, 3);
            x.push(0, 1, 1);
            x.keep(1);
            x.stick(1, 0);
            x.seen(0, 3, 3);
            x.set(20);
            write(x, "set 3;plain");
        });
        everyState(state);
        refused(state, NOT, "frame() of a FAULT", x -> x.frame());
        refused(state, NOT, "run() of a FAULT", x -> x.run());
        refused(state, NOT, "as(0, 1), FIVE is not PLAIN", x -> x.as(0, 1));
        refused(state, NOT, "as(0, 3), FIVE is not SLOW", x -> x.as(0, 3));
        refused(state, NOT, "as(1, 3), HEIR is not SLOW", x -> x.as(1, 3));
        refused(state, NOT, "as(2, 2), PLAIN is not FIVE", x -> x.as(2, 2));
        refused(state, NOT, "push(1, 0, 1), STUCK", x -> x.push(1, 0, 1));
        refused(state, NOT, "push(1, 0, 0), STUCK, as it is", x -> x.push(1, 0, 0));
        refused(state, NOT, "push(2, 0, 9), STUCK", x -> x.push(2, 0, 9));
        refused(state, NOT, "set(22), more than MOST", x -> x.set(22));
        refused(state, NOT, "carry(0), its next one is STUCK", x -> x.carry(0));
        refused(state, NOT, "carry(1), its next one is STUCK", x -> x.carry(1));
        refused(state, NOT, "carry(2), it SHOWS less, no next one", x -> x.carry(2));
        refused(state, NOT, "back(0), not kept", x -> x.back(0));
    }

    private static void fullObject() {
        for (String text : new String[] {"clear;add 7;carry 1", "frame;slow 9 9 3;stuck 0 1", "set"}) {
            State state = new State("full, " + text, x -> {
                frame(x, "slow 5 4 1;five 2 9 3;heir 2 9 3;plain 9 9;five 2 9 3;plain 2 3;stuck 4 0");
                x.push(1, 0, 9);
                x.push(1, 1, 3);
                x.push(2, 0, 9);
                x.keep(0);
                x.push(2, 1, 3);
                x.push(3, 0, 9);
                x.push(5, 0, 3);
                x.stick(5, 0);
                x.carry(1);
                x.push(0, 1, 1);
                x.stick(0, 1);
                x.push(0, 0, 4);
                x.keep(1);
                for (int i = 0; i < 6; i++) {
                    x.seen(i, i, i);
                }
                write(x, padded(text));
            });
            if (text.startsWith("clear")) {
                everyState(state);
            }
            boolean isFrame = text.startsWith("frame");
            refused(state, FULL, "write(0)", x -> x.write(0));
            refused(state, FULL, "write(255)", x -> x.write(255));
            refused(state, FULL, "seen(0, 0, 0)", x -> x.seen(0, 0, 0));
            refused(state, FULL, "seen(5, 40, 99)", x -> x.seen(5, 40, 99));
            refused(state, NOT, "push(4, 0, 0)", x -> x.push(4, 0, 0));
            refused(state, NOT, "carry(2), the next one at its most", x -> x.carry(2));
            refused(state, NOT, "carry(5), no next one", x -> x.carry(5));
            refused(state, NOT, "set(0), STUCK beads are PUSHED", x -> x.set(0));
            if (!isFrame) {
                refused(state, NOT, "frame()", x -> x.frame());
            }
            if (!text.startsWith("clear")) {
                refused(state, NOT, "run()", x -> x.run());
            }
        }
    }

    private static void behindAFrame() {
        State state = new State("behind a frame", x -> {
            frame(x, "plain 10 9");
            x.push(0, 0, 4);
            x.keep(0);
            x.keep(1);
            x.seen(0, 1, 1);
            frame(x, "plain 10 9;plain 2 1");
        });
        refused(state, NOT, "undo()", x -> x.undo());
        refused(state, NOT, "back(0)", x -> x.back(0));
        refused(state, NOT, "back(1)", x -> x.back(1));
    }

    /** Nothing can be undone behind back(), nor behind as many undo()s as there was done. */
    private static void nothingToUndo() {
        State back = new State("behind back()", x -> {
            frame(x, "plain 10 9");
            x.push(0, 0, 4);
            x.keep(0);
            x.push(0, 0, 5);
            x.back(0);
        });
        refused(back, NOT, "undo()", x -> x.undo());
        State undone = new State("all undone", x -> {
            frame(x, "plain 10 9");
            for (int i = 0; i < 9; i++) {
                x.push(0, 0, i);
            }
            for (int i = 0; i < 8; i++) {
                x.undo();
            }
        });
        refused(undone, NOT, "undo()", x -> x.undo());
    }

    /** The tracks do tell of changes: else no check here would mean anything. */
    private static void tracksTell() {
        State state = new State("tracks", x -> {
            frame(x, "five 5 9 1;plain 10 9");
            x.push(0, 0, 5);
            x.keep(0);
            x.seen(0, 5, 1);
            write(x, "clear");
        });
        List<Call> changes = new ArrayList<>();
        changes.add(x -> x.write(' '));
        changes.add(x -> x.erase());
        changes.add(x -> x.run());
        changes.add(x -> x.push(0, 0, 5));
        changes.add(x -> x.push(0, 0, 4));
        changes.add(x -> x.stick(1, 1));
        changes.add(x -> x.set(5));
        changes.add(x -> x.carry(0));
        changes.add(x -> x.undo());
        changes.add(x -> x.keep(1));
        changes.add(x -> x.back(0));
        changes.add(x -> x.seen(1, 9, 9));
        changes.add(x -> x.forget());
        for (int i = 0; i < changes.size(); i++) {
            checks++;
            if (tracksBehind(state.making, changes.get(i)).equals(state.tracks)) {
                complain(state, "change " + i, "left no tracks");
            }
        }
    }

    public static void main(String[] args) {
        tracksTell();
        newObject();
        busyObject();
        fullObject();
        behindAFrame();
        nothingToUndo();
        System.out.println(checks + " calls, " + wrong + " of them not as due");
        if (wrong != 0) {
            System.exit(1);
        }
    }
}
