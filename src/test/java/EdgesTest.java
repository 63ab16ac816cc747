import java.io.IOException;
import java.nio.charset.StandardCharsets;
import java.nio.file.Files;
import java.nio.file.Path;
import java.util.LinkedHashSet;
import java.util.Set;

/**
 * The document's sentences that name an edge, one test for each: the last that is allowed and the first
 * that is not, on both sides; empty and full. That refused calls change nothing is in RefusedTest.
 */
public final class EdgesTest {
    private static final int NONE = -1, UNKNOWN = -2, OUTSIDE = -3, NOT = -4, FULL = -5;
    private static final String[] WORDS = {"plain", "five", "slow", "heir"};
    private static final Set<String> SENTENCES = new LinkedHashSet<>();
    private static int wrong = 0;
    private static int checks = 0;
    private static String sentence = "";

    /** The sentence that the checks behind this call are about, in the document's own words. */
    private static void says(String words) {
        sentence = words;
        SENTENCES.add(words);
    }

    private static void due(String call, long got, long want) {
        checks++;
        if (got != want) {
            wrong++;
            System.out.println("\"" + sentence + "\": " + call + " answered " + got + ", due is " + want);
        }
    }

    private static void write(RodBeads x, String text) {
        for (int i = 0; i < text.length(); i++) {
            x.write(text.charAt(i));
        }
    }

    private static int clausesOf(String text) {
        return text.split(";", -1).length;
    }

    private static RodBeads framed(String text) {
        RodBeads x = new RodBeads();
        frame(x, text);
        return x;
    }

    private static void frame(RodBeads x, String text) {
        write(x, text);
        due("frame() of " + text, x.frame(), clausesOf(text));
    }

    private static void dueFault(RodBeads x, int what, String text, int want) {
        write(x, text);
        due("fault(" + what + ") of \"" + text + "\"", x.fault(what), want);
        if (what == 0 && want != NONE) {
            due("frame() of \"" + text + "\"", x.frame(), NOT);
        }
        if (what == 1 && want != NONE) {
            due("run() of \"" + text + "\"", x.run(), NOT);
        }
        due("erase()", x.erase(), text.length());
    }

    /** The place of the first fault is where the text is cut by the sign |. */
    private static void faultAt(RodBeads x, int what, String marked) {
        int place = marked.indexOf('|');
        dueFault(x, what, marked.replace("|", ""), place);
    }

    private static void sound(RodBeads x, int what, String text) {
        dueFault(x, what, text, NONE);
    }

    private static void dueRun(RodBeads x, String text, int done, long number) {
        write(x, text);
        due("run() of " + text, x.run(), done);
        due("number() behind " + text, x.number(), number);
    }

    private static String times(String clause, int n) {
        StringBuilder text = new StringBuilder(clause);
        for (int i = 1; i < n; i++) {
            text.append(';').append(clause);
        }
        return text.toString();
    }

    private static String padded(String text, int length) {
        return text + " ".repeat(length - text.length());
    }

    /** How many LOW, HIGH beads of each ROD are PUSHED, in the row of the digits told: low high low high .. */
    private static void dueBeads(RodBeads x, String lowsAndHighs) {
        for (int i = 0; i < lowsAndHighs.length(); i++) {
            due("rod(" + i / 2 + ", " + (4 + i % 2) + ")", x.rod(i / 2, 4 + i % 2), lowsAndHighs.charAt(i) - '0');
        }
    }

    // ======== 1 what a frame is

    private static void rodsAtMost() {
        says("RODS are 0, 1 .., 6 at most (none at first)");
        RodBeads x = new RodBeads();
        due("count(0) at first", x.count(0), 0);
        due("rod(0, 0) at first", x.rod(0, 0), UNKNOWN);
        for (int n = 1; n <= 6; n++) {
            frame(x, "plain 10 9");
            due("count(0)", x.count(0), n);
            due("the last one's BASE", x.rod(n - 1, 1), 10);
            due("rod(" + n + ", 0)", x.rod(n, 0), UNKNOWN);
        }
        faultAt(x, 0, "|plain 10 9");
        due("count(0)", x.count(0), 6);
        x = framed(times("slow 2 1 0", 6));
        due("six in one text", x.count(0), 6);
        due("rod(5, 0)", x.rod(5, 0), 2);
        due("rod(6, 0)", x.rod(6, 0), UNKNOWN);
        due("rod(-1, 0)", x.rod(-1, 0), UNKNOWN);

        says("a seventh cannot stand there (at its word)");
        for (String word : WORDS) {
            faultAt(x, 0, "|" + word + " 2 1 0");
            faultAt(x, 0, "|" + word);
            faultAt(x, 0, "stuck 5 1;|" + word);
            faultAt(new RodBeads(), 0, times("five 2 1 0", 6) + "; |" + word + " 99 99 99");
        }
        faultAt(x, 0, "|flat 2 1");
        sound(x, 0, "frame;" + times("five 2 1 0", 6));
        faultAt(x, 0, "frame;" + times("five 2 1 0", 6) + ";|heir 2 1 0");
        frame(x, "frame;plain 2 1");
        due("count(0) behind frame", x.count(0), 1);
    }

    private static void bounds() {
        says("each of a KIND, 0 PLAIN, 1 FIVE, 2 SLOW, 3 HEIR, with a BASE (2 ..");
        for (int kind = 0; kind < 4; kind++) {
            for (int base = 2; base <= 16; base += 14) {
                RodBeads one = framed(WORDS[kind] + " " + base + " 3" + (kind == 0 ? "" : " 1"));
                due("KIND of " + WORDS[kind], one.rod(0, 0), kind);
                due("BASE of " + WORDS[kind], one.rod(0, 1), base);
            }
            faultAt(new RodBeads(), 0, WORDS[kind] + " |1 3 1");
            faultAt(new RodBeads(), 0, WORDS[kind] + " |17 3 1");
        }

        says("16), LOW beads (1 .. 9), HIGH beads (0 .. 3; of a PLAIN one none)");
        RodBeads x = new RodBeads();
        for (int kind = 0; kind < 4; kind++) {
            String word = WORDS[kind] + " ";
            String highs = kind == 0 ? "" : " 0";
            faultAt(x, 0, word + "|1 9" + highs);
            faultAt(x, 0, word + "|0 9" + highs);
            sound(x, 0, word + "2 9" + highs);
            sound(x, 0, word + "16 9" + highs);
            faultAt(x, 0, word + "|17 9" + highs);
            faultAt(x, 0, word + "|99 9" + highs);
            faultAt(x, 0, word + "2 |0" + highs);
            sound(x, 0, word + "2 1" + highs);
            sound(x, 0, word + "2 9" + highs);
            faultAt(x, 0, word + "2 |10" + highs);
            if (kind == 0) {
                faultAt(x, 0, word + "2 9 |0");
            } else {
                sound(x, 0, word + "2 9 3");
                faultAt(x, 0, word + "2 9 |4");
                faultAt(x, 0, word + "2 9 |10");
                faultAt(x, 0, word + "2 9|");
                faultAt(x, 0, word + "2 9|;frame");
                faultAt(x, 0, word + "2 9 3 |0");
            }
        }
        x = framed("plain 2 1;five 16 9 0;slow 2 1 3;heir 16 9 3");
        int[][] told = {{0, 2, 1, 0}, {1, 16, 9, 0}, {2, 2, 1, 3}, {3, 16, 9, 3}};
        for (int rod = 0; rod < 4; rod++) {
            for (int what = 0; what < 4; what++) {
                due("rod(" + rod + ", " + what + ")", x.rod(rod, what), told[rod][what]);
            }
        }
        due("push(1, 1, 0), no HIGH beads", x.push(1, 1, 0), 0);
        due("push(1, 1, 1), no HIGH beads", x.push(1, 1, 1), OUTSIDE);
        due("push(2, 1, 3)", x.push(2, 1, 3), 6);
        due("push(2, 1, 4)", x.push(2, 1, 4), OUTSIDE);
        due("push(2, 0, 1)", x.push(2, 0, 1), 2);
        due("push(2, 0, 2)", x.push(2, 0, 2), OUTSIDE);
    }

    private static void worths() {
        says("A LOW bead is worth 1; a HIGH one of a PLAIN rod nothing (it has none), of a FIVE one 5, of a SLOW one as of"
                + " a FIVE one, of an HEIR one more than all its LOW beads together.");
        RodBeads x = framed("plain 10 9;five 10 1 3;slow 10 9 3;heir 10 1 3;heir 10 9 3;heir 10 4 0");
        int[] highs = {0, 5, 5, 2, 10, 5};
        int[] most = {9, 16, 24, 7, 39, 4};
        for (int rod = 0; rod < 6; rod++) {
            due("as(" + rod + ", 0)", x.as(rod, 0), highs[rod]);
            due("rod(" + rod + ", 9)", x.rod(rod, 9), most[rod]);
            x.push(rod, 0, 1);
            due("a LOW one of rod " + rod, x.rod(rod, 8), 1);
            if (x.rod(rod, 3) > 0) {
                x.push(rod, 1, 1);
                due("and a HIGH one of rod " + rod, x.rod(rod, 8), 1 + highs[rod]);
            }
        }

        says("Each bead is PUSHED, or not (at first)");
        x = framed("five 10 4 1;heir 2 9 3");
        due("count(1)", x.count(1), 0);
        dueBeads(x, "0000");
        x.push(1, 0, 9);
        x.push(1, 1, 3);
        due("count(1)", x.count(1), 12);
        dueBeads(x, "0093");

        says("a ROD SHOWS what its PUSHED beads are worth together (perhaps BASE or more)");
        x = framed("heir 16 9 3;five 2 9 3;plain 9 9");
        due("rod(0, 8)", x.rod(0, 8), 0);
        due("count(7), nothing PUSHED", x.count(7), 0);
        x.push(0, 0, 5);
        x.push(0, 1, 1);
        x.push(1, 0, 1);
        x.push(2, 0, 8);
        due("15 of BASE 16", x.rod(0, 8), 15);
        due("count(7), each BASE less 1", x.count(7), 0);
        x.push(0, 0, 6);
        x.push(1, 0, 2);
        x.push(2, 0, 9);
        due("16 of BASE 16", x.rod(0, 8), 16);
        due("count(7), each BASE", x.count(7), 7);
        x.push(0, 0, 9);
        x.push(0, 1, 3);
        due("39 of BASE 16", x.rod(0, 8), 39);
        due("rod(0, 9)", x.rod(0, 9), 39);
    }

    private static void theNumber() {
        says("THE NUMBER is what all RODS SHOW together, of ROD 0 once, of each other as often as the BASES of all RODS"
                + " ahead of it, multiplied, say.");
        due("no RODS", new RodBeads().number(), 0);
        RodBeads x = framed("plain 2 9;plain 3 9;plain 5 9;plain 7 9;plain 11 9;plain 13 9");
        due("nothing PUSHED", x.number(), 0);
        int[] places = {1, 2, 6, 30, 210, 2310};
        for (int rod = 0; rod < 6; rod++) {
            x.push(rod, 0, 1);
            due("1 on rod " + rod, x.number(), places[rod]);
            x.push(rod, 0, 9);
            due("9 on rod " + rod, x.number(), 9 * places[rod]);
            x.push(rod, 0, 0);
        }
        x = framed(times("heir 16 9 3", 6));
        for (int rod = 0; rod < 6; rod++) {
            x.push(rod, 0, 9);
            x.push(rod, 1, 3);
        }
        due("the greatest of all", x.number(), 43620759);
        due("MOST", x.span(0), 43620759);
        due("set(43620760)", x.set(43620760), NOT);
        due("set(43620758)", x.set(43620758), 1);

        says("LOW beads, HIGH beads of a ROD may be STUCK (all of them as they are).");
        x = framed("five 10 4 1;five 10 4 1");
        x.push(0, 0, 2);
        due("stick(0, 0), 2 of 4 PUSHED", x.stick(0, 0), 1);
        due("set(7)", x.set(7), 1);
        dueBeads(x, "2100");
        due("set(8)", x.set(8), NOT);
        due("set(6)", x.set(6), NOT);
        due("stick(0, 1)", x.stick(0, 1), 1);
        due("set(2)", x.set(2), NOT);
        due("set(97)", x.set(97), 5);
        dueBeads(x, "2141");
        due("stick(0, 0)", x.stick(0, 0), 0);
        due("set(99)", x.set(99), 2);
        due("stick(0, 0), 4 of 4", x.stick(0, 0), 1);
        due("push(0, 0, 4)", x.push(0, 0, 4), NOT);
    }

    private static void times() {
        says("To push a bead, or push it back, takes TIME: 1; of a SLOW ROD twice that; of an HEIR's HIGH ones 3.");
        RodBeads x = framed("plain 10 9;five 10 9 3;slow 10 9 3;heir 10 9 3");
        int[][] each = {{1, 1}, {1, 1}, {2, 2}, {1, 3}};
        int sum = 0;
        for (int rod = 0; rod < 4; rod++) {
            for (int part = 0; part < 2; part++) {
                int all = x.rod(rod, 2 + part);
                String told = "push(" + rod + ", " + part + ", ..)";
                due(told + " none", x.push(rod, part, 0), 0);
                if (all > 0) {
                    due(told + " one", x.push(rod, part, 1), each[rod][part]);
                    due(told + " as it is", x.push(rod, part, 1), 0);
                    due(told + " all", x.push(rod, part, all), (all - 1) * each[rod][part]);
                    due(told + " one back", x.push(rod, part, all - 1), each[rod][part]);
                    due(told + " all back", x.push(rod, part, 0), (all - 1) * each[rod][part]);
                    sum += 2 * all * each[rod][part];
                }
            }
        }
        due("TIME in all", x.count(3), sum);
        due("number", x.number(), 0);
    }

    private static void textAtMost() {
        says("THE TEXT is a row of letters, 160 at most");
        RodBeads x = new RodBeads();
        due("count(6)", x.count(6), 0);
        due("erase()", x.erase(), 0);
        for (int i = 1; i <= 160; i++) {
            due("write()", x.write(i % 2 == 0 ? 0 : 255), i);
        }
        due("the 161st", x.write(32), FULL);
        due("the 161st again", x.write(32), FULL);
        due("count(6)", x.count(6), 160);
        due("erase()", x.erase(), 160);
        due("count(6)", x.count(6), 0);
        due("write() behind erase()", x.write(32), 1);
        x.erase();
        // The last letter of 160 counts, and the end of 160 is at 160.
        faultAt(x, 0, padded("frame", 159) + "|.");
        faultAt(x, 0, padded("frame;", 160) + "|");
        faultAt(x, 1, padded("clear;set 2*", 160) + "|");
        sound(x, 0, padded("plain 10", 159) + "9");
        write(x, padded("plain 10", 159) + "9");
        due("frame() of 160 letters", x.frame(), 1);
        due("its last letter", x.rod(0, 2), 9);
        write(x, padded("set", 159) + "7");
        due("run() of 160 letters", x.run(), 1);
        due("its last letter", x.number(), 7);
        due("THE TEXT is empty then", x.count(6), 0);
        write(x, padded("set", 158) + "78");
        due("erase()", x.erase(), 160);
        due("fault(1), nothing of it is left", x.fault(1), 0);
    }

    private static void clauses() {
        says("taken as a FRAME: CLAUSES with ; between, 12 at most; each is one of: frame. plain B L. five B L U. slow B L U."
                + " heir B L U. stuck R P.");
        RodBeads x = new RodBeads();
        faultAt(x, 0, "|");
        faultAt(x, 0, "|;");
        faultAt(x, 0, "|;frame");
        faultAt(x, 0, "frame;|");
        faultAt(x, 0, "frame;|;frame");
        faultAt(x, 0, "frame |frame");
        faultAt(x, 0, "frame|.");
        faultAt(x, 0, "frame|,frame");
        sound(x, 0, "frame");
        sound(x, 0, times("frame", 11));
        sound(x, 0, times("frame", 12));
        faultAt(x, 0, times("frame", 12) + "|;frame");
        faultAt(x, 0, times("frame", 12) + "|;");
        faultAt(x, 0, times("frame", 12) + " |frame");
        for (int n = 1; n <= 12; n++) {
            frame(x, times("frame", n));
        }
        frame(x, times("plain 10 9", 6) + ";" + times("stuck 0 0", 6));
        due("twelve, all of them done", x.count(0) * 100 + x.count(2), 601);
        faultAt(x, 0, "frame;" + times("plain 2 1", 5) + ";" + times("stuck 0 1", 6) + "|;stuck 1 1");
        for (String word : new String[] {"set 1", "add 1", "sub 1", "clear", "carry 0", "rod 1", "b", "plan 2 1", "plains 2 1",
            "stick 0 0", "1", "#", "(", "Frame", "FRAME", "framE"}) {
            dueFault(x, 0, word, 0);
        }

        says("frame: all as at first");
        x = framed("five 10 4 1;stuck 0 1");
        x.push(0, 0, 3);
        x.keep(0);
        x.seen(0, 1, 1);
        frame(x, "frame");
        for (int what = 0; what < 8; what++) {
            due("count(" + what + ")", x.count(what), 0);
        }
        due("rod(0, 0)", x.rod(0, 0), UNKNOWN);
        due("back(0)", x.back(0), NOT);
        due("undo()", x.undo(), NOT);
        frame(x, "five 10 4 1");
        due("count(2), what was told to be STUCK is gone", x.count(2), 0);
        noTracksOf(times("heir 16 9 3", 6), "plain 3 1;plain 3 1");
        noTracksOf(times("slow 2 1 3", 5), "five 3 4 1");
        noTracksOf("plain 2 1;heir 9 4 2;plain 2 2;stuck 0 0;stuck 1 1", "plain 9 1;slow 2 2 2;plain 2 1");
    }

    /** A frame answers as it would on a new object, whatever the object showed and foretold ahead of it. */
    private static void noTracksOf(String first, String then) {
        RodBeads x = framed(first);
        RodBeads y = framed(then);
        int most = (int) x.span(0);
        x.set(most);
        for (int rod = 0; rod < x.count(0); rod++) {
            x.stick(rod, 0);
        }
        x.span(1);
        x.nearest(most);
        x.loosen(most);
        x.ways(most);
        x.tour(1, 2, 3, 0);
        frame(x, "frame;" + then);
        for (int what = 0; what < 3; what++) {
            due("span(" + what + ") behind " + first, x.span(what), y.span(what));
        }
        for (int n = 0; n < 40; n++) {
            String told = "(" + n + ") of " + then + " behind " + first;
            due("ways" + told, x.ways(n), y.ways(n));
            due("time" + told, x.time(n), y.time(n));
            due("nearest" + told, x.nearest(n), y.nearest(n));
            due("loosen" + told, x.loosen(n), y.loosen(n));
        }
        for (int n = 0; n < 40; n++) {
            due("set(" + n + ") of " + then + " behind " + first, x.set(n), y.set(n));
            due("number()", x.number(), y.number());
        }
    }

    private static void stuckClauses() {
        says("stuck: of a ROD told ahead the LOW beads (P 0), the HIGH ones (1), none PUSHED");
        RodBeads x = new RodBeads();
        faultAt(x, 0, "stuck|");
        faultAt(x, 0, "stuck |0 0");
        faultAt(x, 0, "stuck |0 0;plain 2 1");
        sound(x, 0, "plain 2 1;stuck 0 0");
        faultAt(x, 0, "plain 2 1;stuck |1 0;plain 2 1");
        sound(x, 0, "plain 2 1;plain 2 1;stuck 1 0");
        faultAt(x, 0, "plain 2 1;stuck 0|");
        faultAt(x, 0, "plain 2 1;stuck 0 |2");
        faultAt(x, 0, "plain 2 1;stuck 0 |10");
        faultAt(x, 0, "plain 2 1;stuck 0 1 |1");
        faultAt(x, 0, "plain 2 1;frame;stuck |0 0");
        faultAt(x, 0, "plain 2 1;stuck |99 0");
        frame(x, times("plain 2 1", 6) + ";stuck 5 1;stuck 0 0");
        due("count(2)", x.count(2), 2048 + 1);
        faultAt(x, 0, "stuck |6 0");
        sound(x, 0, "stuck 5 0");
        sound(x, 0, "stuck 05 00");
        faultAt(x, 0, "frame;stuck |5 0");
        RodBeads y = framed("five 10 4 1");
        y.push(0, 0, 4);
        y.push(0, 1, 1);
        frame(y, "stuck 0 0;stuck 0 0;stuck 0 1");
        due("none PUSHED", y.count(1), 0);
        due("rod(0, 6)", y.rod(0, 6), 1);
        due("rod(0, 7)", y.rod(0, 7), 1);
        due("set(0)", y.set(0), 0);
        due("set(1)", y.set(1), NOT);
    }

    private static void letters() {
        says("small letters a .. z, numbers of 1 or 2 digits, blanks between; what earlier texts told stays.");
        RodBeads x = new RodBeads();
        faultAt(x, 0, "|framea");
        faultAt(x, 0, "|framez");
        faultAt(x, 0, "frame|`");
        faultAt(x, 0, "frame|{");
        faultAt(x, 0, "frame|A");
        faultAt(x, 0, "frame|Z");
        faultAt(x, 0, "frame|0");
        sound(x, 0, "plain 2 9");
        sound(x, 0, "plain 02 09");
        faultAt(x, 0, "plain |002 9");
        faultAt(x, 0, "plain 02 |009");
        faultAt(x, 0, "five 02 09 |003");
        sound(x, 0, "five 02 09 03");
        faultAt(x, 0, "plain 2|/9");
        faultAt(x, 0, "plain 2|:9");
        faultAt(x, 0, "plain |29");
        sound(x, 0, "plain2 9");
        sound(x, 0, "  plain   2  9  ;  frame  ");
        sound(x, 0, "plain 2 9;frame;plain 2 9");
        for (int letter : new int[] {0, 9, 10, 13, 31, 33, 127, 128, 160, 255}) {
            faultAt(x, 0, "plain 2|" + (char) letter + "9");
            faultAt(x, 0, "|" + (char) letter + "frame");
            faultAt(x, 1, "clear|" + (char) letter);
        }
        frame(x, "plain 2 1;stuck 0 0");
        frame(x, "five 3 4 1");
        due("RODS", x.count(0), 2);
        due("what was told to be STUCK, too", x.count(2), 1);
        due("BASE", x.rod(0, 1), 2);
        due("BASE", x.rod(1, 1), 3);
        sound(x, 0, "stuck 0 1");
        sound(x, 0, "stuck 1 1");
        faultAt(x, 0, "stuck |2 1");
    }

    private static void faults() {
        says("A FAULT is at the first TOKEN (a row of small letters, a row of digits, any other letter) that cannot stand there"
                + " (a number out of its bounds, of more digits, also), or at the end, if it comes too soon.");
        RodBeads x = new RodBeads();
        // At a token's first letter, however long it is, blanks ahead of it not counted.
        faultAt(x, 0, "|abcdefghij");
        faultAt(x, 0, "   |abcdefghij");
        faultAt(x, 0, "frame   |12345");
        faultAt(x, 0, "plain   |123456789012345678901234567890");
        faultAt(x, 0, "plain   |4294967298 1");
        faultAt(x, 0, "plain 2 9|x");
        // Each other letter is a token of its own.
        faultAt(x, 0, "frame;|;;");
        faultAt(x, 0, "plain |-2 9");
        faultAt(x, 0, "plain |+2 9");
        faultAt(x, 0, "plain |#");
        // The first of several.
        faultAt(x, 0, "plain |1 0;frames");
        faultAt(x, 0, "frame;plain 2 |0;frame;plain 99");
        // The end, blanks ahead of it or none.
        faultAt(x, 0, "|");
        faultAt(x, 0, " |");
        faultAt(x, 0, "     |");
        faultAt(x, 0, "plain|");
        faultAt(x, 0, "plain  |");
        faultAt(x, 0, "plain 2|");
        faultAt(x, 0, "five 2 9|");
        faultAt(x, 0, "five 2 9  |");
        faultAt(x, 0, "frame ; |");
        faultAt(x, 0, "frame;stuck|");
        faultAt(x, 0, "plain 2 1;stuck 0 |");
        faultAt(x, 1, "|");
        faultAt(x, 1, "  |");
        due("fault(2)", x.fault(2), OUTSIDE);
        due("fault(-1)", x.fault(-1), OUTSIDE);
        // Sums are no frame, frames are no sums.
        write(x, "frame");
        due("fault(0)", x.fault(0), NONE);
        due("fault(1)", x.fault(1), 0);
        due("run()", x.run(), NOT);
        due("frame()", x.frame(), 1);
        write(x, "clear");
        due("fault(0)", x.fault(0), 0);
        due("fault(1)", x.fault(1), NONE);
        due("frame()", x.frame(), NOT);
        due("run()", x.run(), 1);
    }

    private static void framesDone() {
        says("CLAUSES are done in their order.");
        RodBeads x = framed("plain 2 1;five 3 2 1;frame;slow 4 3 2;stuck 0 0;heir 5 4 3;stuck 1 1");
        due("RODS", x.count(0), 2);
        due("KIND of rod 0", x.rod(0, 0), 2);
        due("KIND of rod 1", x.rod(1, 0), 3);
        due("STUCK", x.count(2), 1 + 8);
        frame(x, "stuck 0 1;frame;plain 2 1");
        due("STUCK, forgotten by frame", x.count(2), 0);

        says("Behind them nothing is PUSHED, STUCK is as told, TIME is 0, nothing is SEEN, nothing is kept or can be undone.");
        x = framed("five 10 4 1;plain 10 9;stuck 1 0");
        due("stick(1, 0), told, made loose", x.stick(1, 0), 0);
        due("stick(0, 0), not told", x.stick(0, 0), 1);
        x.set(90);
        for (int i = 0; i < 6; i++) {
            x.seen(0, 0, 0);
        }
        x.keep(0);
        x.keep(1);
        frame(x, "plain 2 1");
        due("PUSHED", x.count(1), 0);
        due("number", x.number(), 0);
        due("STUCK", x.count(2), 4);
        due("TIME", x.count(3), 0);
        due("SEEN", x.count(4), 0);
        due("can be undone", x.count(5), 0);
        due("letters", x.count(6), 0);
        due("back(0)", x.back(0), NOT);
        due("back(1)", x.back(1), NOT);
        due("undo()", x.undo(), NOT);

        says("KINDS are over one another: ROD (0); PLAIN (1) and FIVE (2), each under ROD; SLOW (3) is FIVE; HEIR (4) is FIVE.");
        x = framed("plain 10 9;five 10 4 1;slow 10 4 1;heir 10 7 1");
        int[][] worth = {{0, 0, NOT, NOT, NOT}, {5, NOT, 5, NOT, NOT}, {5, NOT, 5, 5, NOT}, {8, NOT, 8, NOT, 8}};
        for (int rod = 0; rod < 4; rod++) {
            due("as(" + rod + ", -1)", x.as(rod, -1), OUTSIDE);
            for (int kind = 0; kind < 5; kind++) {
                due("as(" + rod + ", " + kind + ")", x.as(rod, kind), worth[rod][kind]);
            }
            due("as(" + rod + ", 5)", x.as(rod, 5), OUTSIDE);
        }
        says("A ROD taken as a KIND (0 .. 4, as they are over one another): what a HIGH bead of it is worth. UNKNOWN; OUTSIDE; NOT: it"
                + " is none such.");
        due("as(4, 0)", x.as(4, 0), UNKNOWN);
        due("as(-1, 0)", x.as(-1, 0), UNKNOWN);
        due("as(4, 5)", x.as(4, 5), UNKNOWN);
        due("as(0, 5)", x.as(0, 5), OUTSIDE);
        due("as(0, 4)", x.as(0, 4), NOT);
        due("as(3, 4)", x.as(3, 4), 8);
    }

    // ======== 2 set, carried, sums

    private static void ways() {
        says("A WAY for a number is, of each ROD, how many LOW, how many HIGH beads are PUSHED, so that it is THE NUMBER,"
                + " those that are STUCK as they are.");
        RodBeads none = new RodBeads();
        due("no RODS: ways(0)", none.ways(0), 1);
        due("no RODS: ways(1)", none.ways(1), 0);
        due("no RODS: set(0)", none.set(0), 0);
        due("no RODS: set(1)", none.set(1), NOT);
        RodBeads x = framed("five 5 5 1;plain 5 1");
        int[] ways = {1, 1, 1, 1, 1, 3, 2, 2, 2, 2, 3, 1, 1, 1, 1, 1, 0};
        for (int n = 0; n < ways.length; n++) {
            due("ways(" + n + ")", x.ways(n), ways[n]);
        }
        x.push(0, 0, 5);
        x.stick(0, 0);
        int[] stuck = {0, 0, 0, 0, 0, 1, 0, 0, 0, 0, 2, 0, 0, 0, 0, 1, 0};
        for (int n = 0; n < stuck.length; n++) {
            due("ways(" + n + "), LOW ones STUCK", x.ways(n), stuck[n]);
        }
        x.stick(0, 1);
        x.stick(1, 0);
        due("ways(5), all STUCK", x.ways(5), 1);
        due("ways(4), all STUCK", x.ways(4), 0);
        due("ways(6), all STUCK", x.ways(6), 0);
        due("set(5), all STUCK", x.set(5), 0);
        due("set(4), all STUCK", x.set(4), NOT);
        // HIGH beads that are not there are STUCK as well, and no WAY less.
        RodBeads y = framed("plain 10 9;stuck 0 1");
        due("ways(9)", y.ways(9), 1);
        due("set(9)", y.set(9), 9);
    }

    private static void ties() {
        says("by the WAY of least TIME from now; of several that which has fewest HIGH beads PUSHED on ROD 0, of these fewest"
                + " LOW ones on it, of these fewest HIGH ones on ROD 1, and so on.");
        // TIME comes ahead of fewest HIGH ones: 5 by a HIGH bead (1), not by 5 LOW ones (5).
        tie("five 10 5 1", "00", 5, 1, "01");
        // HIGH ones on ROD 0 ahead of LOW ones on it: 5 LOW (6), not a HIGH one, 2 LOW back (6).
        tie("slow 2 5 1", "20", 5, 6, "50");
        // .. and ahead of HIGH ones on ROD 1.
        tie("five 2 2 2;slow 5 1 1", "0010", 10, 4, "0001");
        // LOW ones on ROD 0 ahead of what is on ROD 1: its LOW ones, its HIGH ones.
        tie("heir 2 3 0;slow 3 1 0", "0000", 2, 2, "0010");
        tie("heir 2 3 0;heir 10 1 1", "0000", 4, 3, "0001");
        // HIGH ones on ROD 1 ahead of its LOW ones, of HIGH ones on ROD 2.
        tie("five 3 1 0;five 3 5 1", "0020", 15, 3, "0050");
        tie("five 2 1 0;heir 2 2 2;heir 3 1 1", "000100", 16, 4, "001101");
        // LOW ones on ROD 1 ahead of LOW ones, of HIGH ones on ROD 2.
        tie("heir 2 1 1;plain 2 2;slow 10 1 0", "100000", 4, 3, "000010");
        tie("heir 2 1 0;plain 2 3;heir 3 1 2", "001000", 10, 3, "001001");
        // HIGH ones on ROD 2 ahead of its LOW ones.
        tie("five 5 1 0;slow 2 1 0;five 2 5 2", "000020", 50, 3, "000050");
    }

    private static void tie(String text, String beads, int number, int time, String then) {
        RodBeads x = framed(text);
        for (int i = 0; i < beads.length(); i++) {
            x.push(i / 2, i % 2, beads.charAt(i) - '0');
        }
        int before = x.count(3);
        due("time(" + number + ")", x.time(number), time);
        for (int i = 0; i < then.length(); i++) {
            String told = "pushed(" + number + ", " + i / 2 + ", " + i % 2 + ") of " + text;
            due(told, x.pushed(number, i / 2, i % 2), then.charAt(i) - '0');
        }
        dueBeads(x, beads);
        due("set(" + number + ") of " + text, x.set(number), time);
        dueBeads(x, then);
        due("number()", x.number(), number);
        due("TIME", x.count(3), before + time);
        due("set(" + number + ") again", x.set(number), 0);
        dueBeads(x, then);
    }

    private static void carries() {
        says("CARRIED is a ROD that SHOWS its BASE or more: it SHOWS BASE less, the next one 1 more, all other RODS as they are,"
                + " THE NUMBER as it was: by the WAY of least TIME, as above.");
        RodBeads x = framed("plain 9 9;plain 2 9;plain 2 9");
        x.push(2, 0, 5);
        x.push(0, 0, 8);
        due("carry(0), BASE less 1", x.carry(0), NOT);
        x.push(0, 0, 9);
        due("carry(0), BASE", x.carry(0), 9 + 1);
        dueBeads(x, "001050");
        due("number", x.number(), 99);
        due("carry(0) again", x.carry(0), NOT);
        due("carry(1), BASE less 1", x.carry(1), NOT);
        x.push(1, 0, 3);
        due("carry(1), BASE and 1", x.carry(1), 2 + 1);
        dueBeads(x, "001060");
        due("carry(2), no next one", x.carry(2), NOT);
        due("carry(3)", x.carry(3), UNKNOWN);
        due("carry(-1)", x.carry(-1), UNKNOWN);
        // The next one: one below its most, at its most.
        x.push(0, 0, 9);
        x.push(1, 0, 8);
        due("carry(0), the next one has 1 left", x.carry(0), 9 + 1);
        x.push(0, 0, 9);
        due("carry(0), the next one has none left", x.carry(0), NOT);
        dueBeads(x, "909060");
        // The least TIME, of several the fewest HIGH ones: 8 less 3 by 5 LOW (3), not by the HIGH one (3).
        RodBeads y = framed("five 3 5 1;heir 2 1 1");
        y.push(0, 0, 3);
        y.push(0, 1, 1);
        due("carry(0)", y.carry(0), 3 + 1);
        dueBeads(y, "5010");
        // The HEIR's next one is its HIGH bead, its LOW one back: 3 and 1.
        due("carry(0)", y.carry(0), 3 + 3 + 1);
        dueBeads(y, "2001");
        // Only the two RODS: 4 on rod 0 alone would be cheaper to show by other ones.
        RodBeads z = framed("plain 2 9;slow 2 9 0;plain 2 9");
        z.push(0, 0, 5);
        z.push(1, 0, 4);
        due("carry(0)", z.carry(0), 2 + 2);
        dueBeads(z, "305000");
        z.stick(0, 0);
        due("carry(0), STUCK", z.carry(0), NOT);
        z.stick(0, 0);
        z.stick(1, 0);
        due("carry(0), the next one STUCK", z.carry(0), NOT);
        due("carry(1), STUCK", z.carry(1), NOT);
        z.stick(0, 1);
        z.stick(1, 0);
        due("carry(0), HIGH ones STUCK, none there", z.carry(0), 2 + 2);
        // The next one SHOWS by its own HIGH beads' worth: an HEIR's of 3, not 5.
        RodBeads w = framed("five 2 2 1;heir 10 2 2;plain 2 1");
        w.push(0, 0, 2);
        w.push(1, 1, 1);
        due("carry(0)", w.carry(0), 2 + 1);
        dueBeads(w, "001100");
        // The next one at its most, of each KIND, and one below it; a third ROD is no help.
        for (String next : new String[] {"plain 2 9", "five 2 9 3", "slow 2 9 3", "heir 2 9 3"}) {
            RodBeads v = framed("plain 2 3;" + next + ";plain 2 9");
            v.push(0, 0, 3);
            v.push(1, 0, 9);
            v.push(1, 1, v.rod(1, 3));
            due("carry(0), at its most: " + next, v.carry(0), NOT);
            v.push(1, 0, 8);
            due("carry(0), one below: " + next, v.carry(0), next.startsWith("slow") ? 2 + 2 : 2 + 1);
            due("rod(1, 8)", v.rod(1, 8), v.rod(1, 9));
            due("rod(2, 8)", v.rod(2, 8), 0);
        }
        // The last of six has no next one either, all its beads being loose.
        RodBeads six = framed(times("plain 2 9", 6));
        for (int rod = 0; rod < 6; rod++) {
            six.push(rod, 0, 3);
        }
        due("carry(5)", six.carry(5), NOT);
        due("carry(4)", six.carry(4), 2 + 1);
        dueBeads(six, "303030301040");
    }

    private static void timeAtMost() {
        says("TIME is counted (1000000 at most: more is not counted).");
        // No 512 calls come so far, and what later ones answer is free: but the sentence holds there, too.
        RodBeads x = framed(times("slow 2 9 3", 6));
        for (int i = 0; i < 6944; i++) {
            x.set(i % 2 == 0 ? 1512 : 0);
        }
        due("TIME, 6944 times 144", x.count(3), 999936);
        x.push(0, 0, 9);
        x.push(0, 0, 0);
        x.push(0, 0, 9);
        x.push(0, 0, 5);
        due("TIME", x.count(3), 999998);
        due("push(0, 0, 6)", x.push(0, 0, 6), 2);
        due("TIME, just so many", x.count(3), 1000000);
        due("push(0, 0, 5) takes its TIME, though it is not counted", x.push(0, 0, 5), 2);
        due("TIME", x.count(3), 1000000);
        x.undo();
        due("undo()", x.undo(), 6);
        due("TIME", x.count(3), 999998);
        due("push(0, 1, 3)", x.push(0, 1, 3), 6);
        due("TIME, not beyond", x.count(3), 1000000);
    }

    private static void statements() {
        says("STATEMENTS with ; between, 12 at most; each is one of: set EXPR. add EXPR. sub EXPR. clear. carry R.");
        RodBeads x = framed("plain 10 9;plain 10 9;plain 10 9");
        faultAt(x, 1, "|");
        faultAt(x, 1, "|;");
        faultAt(x, 1, "|;clear");
        faultAt(x, 1, "clear;|");
        faultAt(x, 1, "clear;|;clear");
        faultAt(x, 1, "clear |clear");
        faultAt(x, 1, "clear|.");
        faultAt(x, 1, "clear |1");
        faultAt(x, 1, "set|");
        faultAt(x, 1, "add|;clear");
        faultAt(x, 1, "sub |clear");
        faultAt(x, 1, "carry|");
        faultAt(x, 1, "carry |;clear");
        sound(x, 1, "set 1;add 2;sub 3;clear;carry 0");
        sound(x, 1, times("clear", 11));
        sound(x, 1, times("clear", 12));
        faultAt(x, 1, times("clear", 12) + "|;clear");
        faultAt(x, 1, times("clear", 12) + "|;");
        faultAt(x, 1, times("clear", 12) + " |clear");
        dueRun(x, times("add 1", 11), 11, 11);
        dueRun(x, times("add 1", 12), 12, 23);
        dueRun(x, "clear", 1, 0);
        for (String word : new String[] {"frame", "plain 2 1", "stuck 0 0", "sets 1", "se 1", "SET 1", "clea", "carr 0", "1", "#"}) {
            dueFault(x, 1, word, 0);
        }

        says("add, sub: THE NUMBER and, less the EXPR, is SET");
        dueRun(x, "add 999", 1, 999);
        dueRun(x, "add 1", 0, 999);
        dueRun(x, "add 0", 1, 999);
        dueRun(x, "sub 999", 1, 0);
        dueRun(x, "sub 1", 0, 0);
        dueRun(x, "sub 0", 1, 0);
        dueRun(x, "add 0-1", 0, 0);
        dueRun(x, "sub 0-999", 1, 999);
        dueRun(x, "add 0-999", 1, 0);

        says("clear: each ROD's beads that are not STUCK are pushed back");
        x = framed("slow 10 4 1;heir 10 4 1");
        dueRun(x, "clear", 1, 0);
        due("TIME, nothing to push back", x.count(3), 0);
        x.set(99);
        x.stick(0, 0);
        x.stick(1, 1);
        int before = x.count(3);
        dueRun(x, "clear", 1, 54);
        dueBeads(x, "4001");
        due("TIME", x.count(3), before + 2 + 4);
        dueRun(x, "clear", 1, 54);
        due("TIME, the others are STUCK", x.count(3), before + 6);
        x.stick(0, 0);
        x.stick(1, 1);
        dueRun(x, "clear", 1, 0);
        due("TIME", x.count(3), before + 6 + 8 + 3);

        says("R a ROD there is, else the FAULT is at it.");
        x = new RodBeads();
        faultAt(x, 1, "carry |0");
        frame(x, "plain 2 1");
        sound(x, 1, "carry 0");
        faultAt(x, 1, "carry |1");
        frame(x, times("plain 2 1", 5));
        sound(x, 1, "carry 5");
        sound(x, 1, "carry 05");
        faultAt(x, 1, "carry |6");
        faultAt(x, 1, "carry |99");
        faultAt(x, 1, "carry |005");
        faultAt(x, 1, "carry |-1");
        faultAt(x, 1, "carry |#");
        faultAt(x, 1, "carry |(0)");
        faultAt(x, 1, "carry 0|+1");
    }

    private static void faultsOfSums() {
        says("FAULTS as in frames.");
        RodBeads x = framed("plain 10 9");
        // At a token's first letter, the first of several, at the end, blanks ahead of it or none.
        faultAt(x, 1, "  |sett 1");
        faultAt(x, 1, "set1|a");
        faultAt(x, 1, "set   |123456789 + 1");
        faultAt(x, 1, "set 1;  |wrong;carry 9");
        faultAt(x, 1, "set 1 ; carry |9 ; wrong");
        faultAt(x, 1, "set 1;|");
        faultAt(x, 1, "set 1;  |");
        faultAt(x, 1, "set  |");
        faultAt(x, 1, "set 1 *  |");
        faultAt(x, 1, "set ( 1  |");
        faultAt(x, 1, "carry  |");
        sound(x, 1, "  set1+2;add(3) ;  clear  ");
        for (int letter : new int[] {0, 9, 10, '!', ',', '.', ':', '%', 'A', '[', '{', 127, 255}) {
            faultAt(x, 1, "set 1|" + (char) letter + "1");
            faultAt(x, 1, "set |" + (char) letter);
            faultAt(x, 1, "|" + (char) letter + " 1");
        }
    }

    private static void expressions() {
        says("EXPR is TERM, perhaps + or - TERM ..; TERM is PART, perhaps * or / PART .. (from left to right; / cuts towards 0)");
        RodBeads x = framed("plain 10 9;plain 10 9;plain 10 9");
        faultAt(x, 1, "set |+1");
        faultAt(x, 1, "set |-1");
        faultAt(x, 1, "set |*1");
        faultAt(x, 1, "set 1+|");
        faultAt(x, 1, "set 1*|;clear");
        faultAt(x, 1, "set 1+|*2");
        faultAt(x, 1, "set 1-|-2");
        faultAt(x, 1, "set 1 |2");
        faultAt(x, 1, "set 1|a");
        faultAt(x, 1, "set |a");
        faultAt(x, 1, "set 1|.5");
        dueRun(x, "set 100-10-20", 1, 70);
        dueRun(x, "set 100-(10-20)", 1, 110);
        dueRun(x, "set 100/10/5", 1, 2);
        dueRun(x, "set 100/(10/5)", 1, 50);
        dueRun(x, "set 100/10*5", 1, 50);
        dueRun(x, "set 2*3+4*5", 1, 26);
        dueRun(x, "set 2+3*4-6/2", 1, 11);
        dueRun(x, "set 7/2", 1, 3);
        dueRun(x, "set 1/2", 1, 0);
        dueRun(x, "set 0/2", 1, 0);
        dueRun(x, "set 10+(0-7)/2", 1, 7);
        dueRun(x, "set 10-(0-7)/(0-2)", 1, 7);
        dueRun(x, "set 10+7/(0-2)", 1, 7);
        dueRun(x, "set 10+(0-1)/2", 1, 10);

        says("PART is a number (of 1 to 7 digits), or # (THE NUMBER as it is then), or ( EXPR ), ( 6 deep at most (the seventh: at"
                + " it).");
        sound(x, 1, "set 0");
        sound(x, 1, "set 9999999");
        sound(x, 1, "set 0000001");
        faultAt(x, 1, "set |00000001");
        faultAt(x, 1, "set |10000000");
        faultAt(x, 1, "set 1+|99999999");
        dueRun(x, "set 0000012", 1, 12);
        dueRun(x, "set 9999999-9999000", 1, 999);
        dueRun(x, "set 1;add #;add #;set #*#", 4, 16);
        dueRun(x, "sub #", 1, 0);
        dueRun(x, "add #", 1, 0);
        faultAt(x, 1, "set #|#");
        faultAt(x, 1, "set 1|#");
        faultAt(x, 1, "set (|)");
        faultAt(x, 1, "set (1|");
        faultAt(x, 1, "set (1|;clear");
        faultAt(x, 1, "set 1|)");
        faultAt(x, 1, "set (1)|)");
        faultAt(x, 1, "set 2|(1)");
        faultAt(x, 1, "set (1)|(2)");
        sound(x, 1, "set ((((((1))))))");
        faultAt(x, 1, "set ((((((|(1)))))))");
        faultAt(x, 1, "set ((((((|(");
        faultAt(x, 1, "set 1+((((((2*|(1)))))))");
        sound(x, 1, "set ((((((1))))))*((((((2))))))-((((((3))))))");
        dueRun(x, "set ((((((7))))))", 1, 7);
        dueRun(x, "set (1+(1+(1+(1+(1+(1+1))))))", 1, 7);
    }

    private static void whatCannotBe() {
        says("They are done one behind the other up to the first that cannot be: an EXPR that divides by 0, or comes (in any of its"
                + " steps) above 1000000000000 or that far below 0; what cannot be SET, CARRIED.");
        RodBeads x = framed("plain 10 9;plain 10 9;plain 10 9");
        dueRun(x, "set 1/0", 0, 0);
        due("TIME", x.count(3), 0);
        dueRun(x, "set 5;set 0/0;set 6", 1, 5);
        dueRun(x, "set 6;set 7/(3-3);set 8", 1, 6);
        dueRun(x, "set 7/(#-6)", 0, 6);
        dueRun(x, "set 7/(#-5)", 1, 7);
        String most = "1000000*1000000";
        dueRun(x, "set " + most + "/1000000/1000000", 1, 1);
        dueRun(x, "set (" + most + "+1)*0+2", 0, 1);
        dueRun(x, "set (" + most + "+0)*0+2", 1, 2);
        dueRun(x, "set (0-" + most + ")*0+3", 1, 3);
        dueRun(x, "set (0-" + most + "-1)*0+4", 0, 3);
        dueRun(x, "set 1000001*1000000*0", 0, 3);
        dueRun(x, "set 1000001*0*1000000", 1, 0);
        dueRun(x, "set (0-1000001)*1000000*0+1", 0, 0);
        dueRun(x, "set (0-1000000)*1000000*0+1", 1, 1);
        dueRun(x, "set (0-1000001)*(0-1000000)*0+2", 0, 1);
        dueRun(x, "set 1+" + most + "-" + most, 0, 1);
        dueRun(x, "set " + most + "-" + most + "+4", 1, 4);
        dueRun(x, "set 9999999*9999999*9999999*9999999", 0, 4);
        // A step that wraps around 64 bits to 0 is above the limit, too.
        dueRun(x, "set 65536*65536*65536*65536", 0, 4);
        dueRun(x, "set (65536*65536)*(65536*65536)", 0, 4);

        dueRun(x, "set 999;set 1000;set 1", 1, 999);
        dueRun(x, "set 0;set 0-1;set 1", 1, 0);
        dueRun(x, "set 4294967*1000+297", 0, 0);
        dueRun(x, "set 5;carry 0;set 6", 1, 5);
        dueRun(x, "set 5;carry 2;set 6", 1, 5);
        RodBeads y = framed("five 5 4 1;plain 2 3");
        y.push(0, 0, 4);
        y.push(0, 1, 1);
        dueRun(y, "carry 0;carry 0;clear", 1, 9);
        dueBeads(y, "4010");
        y.push(0, 1, 1);
        y.push(1, 0, 3);
        dueRun(y, "carry 0;clear", 0, 24);
        due("TIME, nothing was done", y.count(3), 5 + 2 + 1 + 2);
    }

    // ======== 3 foretold

    private static void foretold() {
        says("WAYS: how many there are for a number (0 .. 1000000000).");
        RodBeads x = framed("five 2 9 3;heir 2 9 3;slow 2 9 3;five 2 9 3;heir 2 9 3;slow 2 9 3");
        due("ways(-1)", x.ways(-1), OUTSIDE);
        due("ways(0)", x.ways(0), 1);
        due("ways(1)", x.ways(1), 1);
        due("ways(2)", x.ways(2), 2);
        due("MOST", x.span(0), 24 * (1 + 4 + 8 + 32) + 39 * (2 + 16));
        due("ways(1782)", x.ways(1782), 1);
        due("ways(1781)", x.ways(1781), 1);
        due("ways(1783)", x.ways(1783), 0);
        due("ways(1000000000)", x.ways(1000000000), 0);
        due("ways(1000000001)", x.ways(1000000001), OUTSIDE);

        says("LEAST TIME for it; of the WAY by which it would be SET how many LOW, HIGH beads are PUSHED on a ROD; none.");
        x = framed("five 10 4 1;plain 10 4");
        due("time(-1)", x.time(-1), OUTSIDE);
        due("time(0)", x.time(0), 0);
        due("time(49)", x.time(49), 9);
        due("time(50)", x.time(50), NONE);
        due("time(1000000000)", x.time(1000000000), NONE);
        due("time(1000000001)", x.time(1000000001), OUTSIDE);
        due("pushed(-1, 0, 0)", x.pushed(-1, 0, 0), OUTSIDE);
        due("pushed(0, 0, 0)", x.pushed(0, 0, 0), 0);
        due("pushed(49, 0, 0)", x.pushed(49, 0, 0), 4);
        due("pushed(49, 0, 1)", x.pushed(49, 0, 1), 1);
        due("pushed(49, 1, 0)", x.pushed(49, 1, 0), 4);
        due("pushed(49, 1, 1)", x.pushed(49, 1, 1), 0);
        due("pushed(50, 1, 1)", x.pushed(50, 1, 1), NONE);
        due("pushed(1000000000, 0, 0)", x.pushed(1000000000, 0, 0), NONE);
        due("pushed(1000000001, 0, 0)", x.pushed(1000000001, 0, 0), OUTSIDE);
        x.set(49);
        due("time(49), as it is", x.time(49), 0);
        due("time(0), all back", x.time(0), 9);
        x.stick(0, 0);
        due("time(49), STUCK as it is", x.time(49), 0);
        due("time(0), STUCK", x.time(0), NONE);
        due("pushed(4, 0, 0), STUCK", x.pushed(4, 0, 0), 4);

        says("MOST: the greatest number that can be shown, STUCK beads as they are; FEWEST: the least one.");
        RodBeads none = new RodBeads();
        due("no RODS: MOST", none.span(0), 0);
        due("no RODS: FEWEST", none.span(1), 0);
        x = framed("five 10 4 1;heir 10 4 2");
        due("MOST", x.span(0), 149);
        due("FEWEST", x.span(1), 0);
        x.push(0, 0, 2);
        x.stick(0, 0);
        x.push(1, 1, 1);
        due("MOST, LOW ones STUCK", x.span(0), 147);
        due("FEWEST, LOW ones STUCK", x.span(1), 2);
        x.stick(1, 1);
        due("MOST, HIGH ones too", x.span(0), 97);
        due("FEWEST, HIGH ones too", x.span(1), 52);
        x.stick(0, 1);
        x.stick(1, 0);
        due("MOST, all STUCK", x.span(0), 52);
        due("FEWEST, all STUCK", x.span(1), 52);
        due("GAP, all STUCK", x.span(2), 53);
    }

    private static void gaps() {
        says("GAP: the least number above FEWEST, of those up to 500 more, that cannot be shown; none.");
        due("no RODS", new RodBeads().span(2), 1);
        due("1 more", framed("plain 2 1;stuck 0 0").span(2), 1);
        due("2 more", framed("plain 2 1").span(2), 2);
        // 12 and 9 times 54, which is 14 and 10 times 4.
        due("499 more, 0 .. 498 are shown", framed("five 9 7 1;five 10 9 1;plain 2 4").span(2), 499);
        due("500 more, 0 .. 499 are shown", framed("plain 10 9;plain 10 9;plain 10 4").span(2), 500);
        // 0 .. 500 are shown: 10 and 10 times 49.
        RodBeads x = framed("five 10 5 1;plain 10 9;plain 10 4");
        due("MOST", x.span(0), 500);
        due("501 more, 0 .. 500 are shown", x.span(2), NONE);
        due("501 cannot be shown", x.ways(501), 0);
        // The same above a FEWEST of 1000.
        x = framed("plain 10 9;plain 10 9;plain 10 4;plain 2 1");
        x.push(3, 0, 1);
        x.stick(3, 0);
        due("FEWEST", x.span(1), 1000);
        due("GAP", x.span(2), 1500);
        x = framed("five 10 5 1;plain 10 9;plain 10 4;plain 2 1");
        x.push(3, 0, 1);
        x.stick(3, 0);
        due("FEWEST", x.span(1), 1000);
        due("MOST", x.span(0), 1500);
        due("GAP", x.span(2), NONE);
        x = framed(times("plain 16 9", 6));
        x.push(5, 0, 9);
        x.stick(5, 0);
        due("FEWEST", x.span(1), 0x900000);
        due("GAP", x.span(2), 0x90000a);
        due("span(-1)", x.span(-1), OUTSIDE);
        due("span(3)", x.span(3), OUTSIDE);
    }

    private static void nearests() {
        says("NEAREST to a number: of those that can be shown, none farther off than 500, the nearest, of two the lesser; none.");
        RodBeads none = new RodBeads();
        due("no RODS: nearest(0)", none.nearest(0), 0);
        due("no RODS: nearest(500)", none.nearest(500), 0);
        due("no RODS: nearest(501)", none.nearest(501), NONE);
        due("no RODS: nearest(1000000000)", none.nearest(1000000000), NONE);
        due("nearest(-1)", none.nearest(-1), OUTSIDE);
        due("nearest(1000000001)", none.nearest(1000000001), OUTSIDE);
        // What is shown is made of 16, 256 and 1024, each once at most.
        RodBeads x = framed("plain 16 1;plain 16 1;plain 4 1;plain 2 1;stuck 0 0");
        int[] shown = {0, 16, 256, 272, 1024, 1040, 1280, 1296};
        for (int n : shown) {
            due("nearest(" + n + ")", x.nearest(n), n);
        }
        due("nearest(1)", x.nearest(1), 0);
        due("nearest(15)", x.nearest(15), 16);
        due("nearest(17)", x.nearest(17), 16);
        due("nearest(255)", x.nearest(255), 256);
        due("nearest(7)", x.nearest(7), 0);
        due("nearest(8), of two the lesser", x.nearest(8), 0);
        due("nearest(9)", x.nearest(9), 16);
        due("nearest(136), of two the lesser", x.nearest(136), 16);
        due("nearest(137)", x.nearest(137), 256);
        due("nearest(648), of two the lesser", x.nearest(648), 272);
        due("nearest(649)", x.nearest(649), 1024);
        due("nearest(1796)", x.nearest(1796), 1296);
        due("nearest(1797)", x.nearest(1797), NONE);
        // 0 and 1280 alone: what lies between is too far off from both.
        RodBeads y = framed("plain 16 1;plain 16 1;plain 5 1;plain 2 1;stuck 0 0;stuck 1 0;stuck 2 0");
        due("MOST", y.span(0), 1280);
        due("nearest(500)", y.nearest(500), 0);
        due("nearest(501)", y.nearest(501), NONE);
        due("nearest(779)", y.nearest(779), NONE);
        due("nearest(780)", y.nearest(780), 1280);
        due("nearest(1780)", y.nearest(1780), 1280);
        due("nearest(1781)", y.nearest(1781), NONE);
        // Two that are both 500 off.
        RodBeads z = framed("plain 10 1;plain 10 1;plain 10 1;plain 10 1;stuck 0 0;stuck 1 0;stuck 2 0");
        due("nearest(500), 0 and 1000 are both 500 off", z.nearest(500), 0);
        due("nearest(501)", z.nearest(501), 1000);
        due("nearest(499)", z.nearest(499), 0);
        // Far up, too: what is shown has no digit above 9 in base 16.
        RodBeads six = framed(times("plain 16 9", 6));
        due("nearest(0x999999)", six.nearest(0x999999), 0x999999);
        due("nearest(0x99999a)", six.nearest(0x99999a), 0x999999);
        due("nearest(0x999999 + 500)", six.nearest(0x999999 + 500), 0x999999);
        due("nearest(0x999999 + 501)", six.nearest(0x999999 + 501), NONE);
        due("nearest(0x990000 - 1)", six.nearest(0x990000 - 1), 0x990000);
        due("nearest(0x990000 - 500)", six.nearest(0x990000 - 500), 0x990000);
        due("nearest(0x990000 - 501)", six.nearest(0x990000 - 501), NONE);
        due("nearest(0x989999 + 500)", six.nearest(0x989999 + 500), 0x989999);
        due("nearest(0x989999 + 501)", six.nearest(0x989999 + 501), NONE);
        due("nearest(0x98999c), of two the first is far nearer", six.nearest(0x98999c), 0x989999);
        due("nearest(0x98980c)", six.nearest(0x98980c), 0x989809);
        due("nearest(0x98980d)", six.nearest(0x98980d), 0x989810);
    }

    private static void loosens() {
        says("LOOSEN for a number: the set of STUCK parts (bits: twice the ROD, and 1 for its HIGH beads), the fewest, of as few the"
                + " least, so that it could be shown if these were not STUCK; none.");
        due("no RODS: loosen(0)", new RodBeads().loosen(0), 0);
        due("no RODS: loosen(1)", new RodBeads().loosen(1), NONE);
        RodBeads x = framed("five 10 4 1;five 10 4 1");
        due("nothing STUCK: loosen(99)", x.loosen(99), 0);
        due("nothing STUCK: loosen(100)", x.loosen(100), NONE);
        due("loosen(-1)", x.loosen(-1), OUTSIDE);
        due("loosen(1000000000)", x.loosen(1000000000), NONE);
        due("loosen(1000000001)", x.loosen(1000000001), OUTSIDE);
        // Each bit by itself, up to the last one.
        RodBeads all = framed(times("heir 16 1 1", 6));
        for (int rod = 0; rod < 6; rod++) {
            all.stick(rod, 0);
            all.stick(rod, 1);
        }
        due("count(2)", all.count(2), 4095);
        int place = 1;
        for (int rod = 0; rod < 6; rod++) {
            due("LOW of rod " + rod, all.loosen(place), 1 << (2 * rod));
            due("HIGH of rod " + rod, all.loosen(2 * place), 2 << (2 * rod));
            due("both of rod " + rod, all.loosen(3 * place), 3 << (2 * rod));
            place *= 16;
        }
        due("all of them", all.loosen(3355443), 4095);
        due("one more", all.loosen(3355444), NONE);
        due("loosen(0)", all.loosen(0), 0);
        // Fewest ahead of least: 10 by HIGH and LOW ones of rod 0 (bits 1, 2), or by LOW ones of rod 1 (4).
        RodBeads y = framed("five 10 9 1;plain 10 1;stuck 0 0;stuck 0 1;stuck 1 0");
        due("loosen(10)", y.loosen(10), 4);
        // Of as few the least: 5 by LOW ones or a HIGH one of rod 0.
        due("loosen(5)", y.loosen(5), 1);
        due("loosen(6)", y.loosen(6), 1);
        due("loosen(15), by 0 and 1, or 0 and 2, or 1 and 2", y.loosen(15), 5);
        // What is not STUCK is free.
        y.stick(0, 1);
        due("loosen(5), a HIGH one is loose", y.loosen(5), 0);
        due("loosen(15)", y.loosen(15), 4);
        due("loosen(24)", y.loosen(24), 5);
        due("loosen(25)", y.loosen(25), NONE);
        // STUCK parts that are PUSHED count as they are.
        y.push(0, 1, 1);
        y.stick(0, 1);
        due("loosen(5)", y.loosen(5), 0);
        due("loosen(0)", y.loosen(0), 2);
        due("loosen(4)", y.loosen(4), 3);
    }

    private static void tours() {
        says("TOUR of three numbers (0 .. 1000000): they are SET one behind the other from now on, in that order of them by which TIME"
                + " is least, of several the first (0 1 2, 0 2 1, 1 0 2, 1 2 0, 2 0 1, 2 1 0 are orders 0 .. 5): TIME; the order;"
                + " none, if one of them cannot be shown.");
        RodBeads none = new RodBeads();
        due("no RODS: tour(0, 0, 0, 0)", none.tour(0, 0, 0, 0), 0);
        due("no RODS: tour(0, 0, 0, 1)", none.tour(0, 0, 0, 1), 0);
        due("no RODS: tour(0, 0, 1, 0)", none.tour(0, 0, 1, 0), NONE);
        RodBeads x = framed(times("plain 10 9", 6));
        due("tour(-1, 0, 0, 0)", x.tour(-1, 0, 0, 0), OUTSIDE);
        due("tour(0, -1, 0, 0)", x.tour(0, -1, 0, 0), OUTSIDE);
        due("tour(0, 0, -1, 0)", x.tour(0, 0, -1, 0), OUTSIDE);
        due("tour(999999, 999999, 999999, 0)", x.tour(999999, 999999, 999999, 0), 54);
        due("tour(1000000, 0, 0, 0)", x.tour(1000000, 0, 0, 0), NONE);
        due("tour(0, 1000000, 0, 1)", x.tour(0, 1000000, 0, 1), NONE);
        due("tour(0, 0, 1000000, 0)", x.tour(0, 0, 1000000, 0), NONE);
        due("tour(1000001, 0, 0, 0)", x.tour(1000001, 0, 0, 0), OUTSIDE);
        due("tour(0, 1000001, 0, 0)", x.tour(0, 1000001, 0, 0), OUTSIDE);
        due("tour(0, 0, 1000001, 0)", x.tour(0, 0, 1000001, 0), OUTSIDE);
        due("tour(0, 0, 0, -1)", x.tour(0, 0, 0, -1), OUTSIDE);
        due("tour(0, 0, 0, 2)", x.tour(0, 0, 0, 2), OUTSIDE);
        int[][] orders = {{1, 2, 3}, {1, 3, 2}, {2, 1, 3}, {3, 1, 2}, {2, 3, 1}, {3, 2, 1}};
        for (int order = 0; order < 6; order++) {
            int[] t = orders[order];
            due("the order of " + t[0] + t[1] + t[2], x.tour(t[0], t[1], t[2], 1), order);
            due("TIME of " + t[0] + t[1] + t[2], x.tour(t[0], t[1], t[2], 0), 3);
        }
        due("all the same: the first", x.tour(7, 7, 7, 1), 0);
        due("0 1 2, 1 0 2 are the same", x.tour(1, 1, 2, 1), 0);
        due("0 1 2, 0 2 1 are the same", x.tour(1, 2, 2, 1), 0);
        due("0 2 1, 2 0 1 are the same", x.tour(1, 2, 1, 1), 1);
        due("1 2 0, 2 1 0 are the same", x.tour(3, 1, 1, 1), 3);
        due("1 0 2, 1 2 0 are the same", x.tour(2, 1, 2, 1), 2);
        due("2 0 1, 2 1 0 are the same", x.tour(2, 2, 1, 1), 4);
        // 10 and 1 in any order take 3 from 0 and 11 takes 2: 0 1 2 as dear as others.
        due("tour(1, 10, 11, 0)", x.tour(1, 10, 11, 0), 3);
        due("tour(1, 10, 11, 1), 1 11 10 is the first of two", x.tour(1, 10, 11, 1), 1);
        due("tour(10, 1, 11, 1), 10 11 1 is the first of two", x.tour(10, 1, 11, 1), 1);
        RodBeads y = framed(times("heir 16 9 3", 6));
        due("tour(1000000, 1000000, 1000000, 1)", y.tour(1000000, 1000000, 1000000, 1), 0);
        due("TIME of it", y.tour(1000000, 1000000, 1000000, 0), y.time(1000000));
        due("tour(1000001, 0, 0, 0)", y.tour(1000001, 0, 0, 0), OUTSIDE);
    }

    private static void seens() {
        says("SEEN, 6 at most: from nothing PUSHED on it a ROD was made to SHOW v (0 .. 40), in TIME t (0 .. 99).");
        RodBeads x = framed("five 10 4 1;plain 10 9");
        due("count(4)", x.count(4), 0);
        due("forget()", x.forget(), 0);
        due("seen(0, -1, 0)", x.seen(0, -1, 0), OUTSIDE);
        due("seen(0, 41, 0)", x.seen(0, 41, 0), OUTSIDE);
        due("seen(0, 0, -1)", x.seen(0, 0, -1), OUTSIDE);
        due("seen(0, 0, 100)", x.seen(0, 0, 100), OUTSIDE);
        due("seen(2, 0, 0)", x.seen(2, 0, 0), UNKNOWN);
        due("seen(-1, 0, 0)", x.seen(-1, 0, 0), UNKNOWN);
        due("seen(0, 0, 0)", x.seen(0, 0, 0), 1);
        due("seen(0, 40, 0)", x.seen(0, 40, 0), 2);
        due("seen(0, 0, 99)", x.seen(0, 0, 99), 3);
        due("seen(1, 40, 99)", x.seen(1, 40, 99), 4);
        due("seen(1, 0, 0)", x.seen(1, 0, 0), 5);
        due("seen(1, 0, 0)", x.seen(1, 0, 0), 6);
        due("seen(1, 0, 0)", x.seen(1, 0, 0), FULL);
        due("count(4)", x.count(4), 6);
        due("forget()", x.forget(), 6);
        due("count(4)", x.count(4), 0);
        due("seen(1, 0, 0)", x.seen(1, 0, 0), 1);
        due("forget()", x.forget(), 1);

        says("KINDS (0 .. 3, by bits) by which all that is SEEN of a ROD would be so, by least TIME, its beads as many as now (of a"
                + " PLAIN one its HIGH ones are not there), nothing STUCK.");
        x = framed("heir 10 5 2;plain 10 9;five 2 9 3;stuck 0 0");
        for (int rod = 0; rod < 3; rod++) {
            due("nothing SEEN: kinds(" + rod + ")", x.kinds(rod), 15);
        }
        due("kinds(3)", x.kinds(3), UNKNOWN);
        due("kinds(-1)", x.kinds(-1), UNKNOWN);
        x.push(0, 1, 2);
        // Of 5 LOW, 2 HIGH: 0 in 0 by all; 5 in 5 PLAIN, HEIR, in 1 FIVE, in 2 SLOW.
        dueKinds(x, 0, 0, 0, 15);
        dueKinds(x, 0, 0, 1, 0);
        dueKinds(x, 0, 5, 5, 1 + 8);
        dueKinds(x, 0, 5, 1, 2);
        dueKinds(x, 0, 5, 2, 4);
        // 6: PLAIN has none, FIVE 2, SLOW 4, HEIR a HIGH one, 3.
        dueKinds(x, 0, 6, 6, 0);
        dueKinds(x, 0, 6, 2, 2);
        dueKinds(x, 0, 6, 4, 4);
        dueKinds(x, 0, 6, 3, 8);
        // The most: FIVE, SLOW 15, HEIR 17.
        dueKinds(x, 0, 15, 7, 2);
        dueKinds(x, 0, 15, 14, 4);
        dueKinds(x, 0, 16, 8, 0);
        dueKinds(x, 0, 17, 11, 8);
        dueKinds(x, 0, 18, 12, 0);
        // A PLAIN one's HIGH beads are none as another KIND, too; 9 LOW, 3 HIGH ones SHOW 39 at most.
        dueKinds(x, 1, 9, 9, 1 + 2 + 8);
        dueKinds(x, 1, 9, 18, 4);
        dueKinds(x, 1, 10, 10, 0);
        dueKinds(x, 2, 39, 18, 8);
        dueKinds(x, 2, 40, 19, 0);
        dueKinds(x, 2, 24, 12, 2);
        dueKinds(x, 2, 24, 24, 4);
        // All that is SEEN of that ROD, not of others.
        x.seen(0, 3, 3);
        x.seen(1, 9, 18);
        due("kinds(0)", x.kinds(0), 11);
        due("kinds(1)", x.kinds(1), 4);
        due("kinds(2)", x.kinds(2), 15);
        x.seen(0, 6, 3);
        due("kinds(0)", x.kinds(0), 8);
        x.seen(0, 0, 9);
        due("kinds(0)", x.kinds(0), 0);
    }

    private static void dueKinds(RodBeads x, int rod, int v, int t, int want) {
        x.seen(rod, v, t);
        due("kinds(" + rod + "), " + v + " SEEN in " + t, x.kinds(rod), want);
        x.forget();
    }

    private static void slips() {
        says("SLIPS: each PUSHED bead of a ROD slips back by q of ten (0 .. 10), by itself: the odds that it SHOWS v (0 .. 60) or more"
                + " then.");
        RodBeads x = framed("heir 16 9 3;five 10 4 1;plain 10 9");
        due("slips(0, -1, 0, 0)", x.slips(0, -1, 0, 0), OUTSIDE);
        due("slips(0, 11, 0, 0)", x.slips(0, 11, 0, 0), OUTSIDE);
        due("slips(0, 0, -1, 0)", x.slips(0, 0, -1, 0), OUTSIDE);
        due("slips(0, 0, 61, 0)", x.slips(0, 0, 61, 0), OUTSIDE);
        due("slips(3, 0, 0, 0)", x.slips(3, 0, 0, 0), UNKNOWN);
        due("slips(-1, 0, 0, 0)", x.slips(-1, 0, 0, 0), UNKNOWN);
        // Nothing PUSHED: it SHOWS 0.
        for (int q = 0; q <= 10; q += 5) {
            odds(x, 0, q, 0, 1, 1);
            odds(x, 0, q, 1, 0, 1);
        }
        x.push(0, 0, 9);
        x.push(0, 1, 3);
        odds(x, 0, 0, 39, 1, 1);
        odds(x, 0, 0, 40, 0, 1);
        odds(x, 0, 0, 60, 0, 1);
        odds(x, 0, 10, 0, 1, 1);
        odds(x, 0, 10, 1, 0, 1);
        odds(x, 0, 1, 39, 282429536481L, 1000000000000L);
        odds(x, 0, 9, 39, 1, 1000000000000L);
        odds(x, 0, 5, 39, 1, 4096);
        odds(x, 0, 5, 40, 0, 1);
        odds(x, 0, 5, 1, 4095, 4096);
        odds(x, 0, 5, 0, 1, 1);
        // Only that ROD's; its HIGH bead is worth 5: 6 by both, 5 by it alone, 1 by the LOW one alone.
        x.push(1, 0, 1);
        x.push(1, 1, 1);
        odds(x, 1, 2, 7, 0, 1);
        odds(x, 1, 2, 6, 16, 25);
        odds(x, 1, 2, 5, 4, 5);
        odds(x, 1, 2, 2, 4, 5);
        odds(x, 1, 2, 1, 24, 25);
        odds(x, 1, 2, 0, 1, 1);
        odds(x, 2, 2, 1, 0, 1);

        says("Parts are told in lowest terms: above (part 0), below (1).");
        odds(x, 1, 5, 5, 1, 2);
        odds(x, 1, 4, 5, 3, 5);
        odds(x, 1, 10, 5, 0, 1);
        odds(x, 1, 0, 5, 1, 1);
        due("slips(1, 5, 5, -1)", x.slips(1, 5, 5, -1), UNKNOWN);
        due("slips(1, 5, 5, 2)", x.slips(1, 5, 5, 2), UNKNOWN);
    }

    private static void odds(RodBeads x, int rod, int q, int v, long above, long below) {
        String told = "slips(" + rod + ", " + q + ", " + v + ", ";
        due(told + "0)", x.slips(rod, q, v, 0), above);
        due(told + "1)", x.slips(rod, q, v, 1), below);
    }

    // ======== the promises' own edges

    private static void toldPromises() {
        says("No rods.");
        RodBeads x = new RodBeads();
        for (int what = 0; what < 8; what++) {
            due("count(" + what + ")", x.count(what), 0);
        }
        due("number()", x.number(), 0);

        says("A letter (its number, 0 .. 255) more of THE TEXT: how many it has. OUTSIDE; FULL.");
        due("write(-1)", x.write(-1), OUTSIDE);
        due("write(0)", x.write(0), 1);
        due("write(255)", x.write(255), 2);
        due("write(256)", x.write(256), OUTSIDE);
        due("count(6)", x.count(6), 2);
        // 256 more than a letter's number is not that letter.
        x.erase();
        write(x, "frame");
        due("write(256 + 32)", x.write(288), OUTSIDE);
        due("frame()", x.frame(), 1);

        says("THE TEXT is empty: how many letters it had.");
        due("erase() of none", x.erase(), 0);
        x.write(1);
        due("erase() of one", x.erase(), 1);
        due("erase() again", x.erase(), 0);

        says("THE TEXT, taken as a FRAME, is done, and it is empty then: how many CLAUSES there were. NOT: it has a FAULT.");
        due("frame() of no text", x.frame(), NOT);
        write(x, "plain 10 9;plain 10");
        due("frame() of a FAULT in its second CLAUSE", x.frame(), NOT);
        due("none of it is done", x.count(0), 0);
        due("count(6), it stays", x.count(6), 19);
        write(x, " 9");
        due("frame() of it, mended", x.frame(), 2);
        due("count(0)", x.count(0), 2);
        due("count(6)", x.count(6), 0);
        due("frame() again", x.frame(), NOT);

        says("THE TEXT, taken as SUMS, is done, and it is empty then: how many STATEMENTS were done. NOT: it has a FAULT.");
        due("run() of no text", x.run(), NOT);
        write(x, "set 5;set");
        due("run() of a FAULT in its second STATEMENT", x.run(), NOT);
        due("none of it is done", x.number(), 0);
        due("count(5), nothing to undo", x.count(5), 0);
        due("count(6), it stays", x.count(6), 9);
        write(x, " 6;set 100");
        due("run() of it, mended", x.run(), 2);
        due("number()", x.number(), 6);
        due("count(6), empty, though not all was done", x.count(6), 0);
        due("run() again", x.run(), NOT);
        write(x, "set 100");
        due("run(), its first cannot be", x.run(), 0);
        due("count(6)", x.count(6), 0);
        due("number()", x.number(), 6);

        says("Of a ROD: KIND (what 0), BASE (1), LOW, HIGH beads (2, 3), how many of them are PUSHED (4, 5), 1 they are STUCK, 0 (6,"
                + " 7), what it SHOWS (8), the most that it could SHOW, if nothing was STUCK (9).");
        x = framed("heir 7 4 2");
        x.push(0, 0, 3);
        x.push(0, 1, 1);
        x.stick(0, 1);
        int[] told = {OUTSIDE, 3, 7, 4, 2, 3, 1, 0, 1, 8, 14, OUTSIDE};
        for (int what = -1; what <= 10; what++) {
            due("rod(0, " + what + ")", x.rod(0, what), told[what + 1]);
        }
        x.stick(0, 0);
        x.stick(0, 1);
        due("rod(0, 6)", x.rod(0, 6), 1);
        due("rod(0, 7)", x.rod(0, 7), 0);
        due("rod(0, 9), STUCK ones, too", x.rod(0, 9), 14);
        due("rod(1, 0)", x.rod(1, 0), UNKNOWN);
        due("rod(-1, 0)", x.rod(-1, 0), UNKNOWN);
    }

    private static void donePromises() {
        says("n beads of a part (0 LOW, 1 HIGH) of a ROD are PUSHED, no more, no less: the TIME that it took. UNKNOWN; OUTSIDE: n"
                + " below 0, above how many there are; NOT: they are STUCK.");
        RodBeads x = framed("five 10 4 2");
        due("push(0, 0, -1)", x.push(0, 0, -1), OUTSIDE);
        due("push(0, 0, 4)", x.push(0, 0, 4), 4);
        due("push(0, 0, 5)", x.push(0, 0, 5), OUTSIDE);
        due("push(0, 1, 2)", x.push(0, 1, 2), 2);
        due("push(0, 1, 3)", x.push(0, 1, 3), OUTSIDE);
        due("push(0, 1, -1)", x.push(0, 1, -1), OUTSIDE);
        due("push(0, 0, 1), no more", x.push(0, 0, 1), 3);
        dueBeads(x, "12");
        due("push(0, 0, 0)", x.push(0, 0, 0), 1);
        due("push(1, 0, 0)", x.push(1, 0, 0), UNKNOWN);
        due("push(0, 2, 0)", x.push(0, 2, 0), UNKNOWN);
        due("push(0, -1, 0)", x.push(0, -1, 0), UNKNOWN);

        says("A part of a ROD becomes STUCK, or loose again: 1 it is STUCK, 0 not. UNKNOWN.");
        due("stick(0, 0)", x.stick(0, 0), 1);
        due("push(0, 0, 0), as it is", x.push(0, 0, 0), NOT);
        due("push(0, 0, 5), OUTSIDE is ahead of NOT", x.push(0, 0, 5), OUTSIDE);
        due("push(0, 1, 1), not that part", x.push(0, 1, 1), 1);
        due("stick(0, 0)", x.stick(0, 0), 0);
        due("push(0, 0, 0)", x.push(0, 0, 0), 0);
        due("stick(0, 1)", x.stick(0, 1), 1);
        due("push(0, 1, 0)", x.push(0, 1, 0), NOT);
        due("stick(0, 2)", x.stick(0, 2), UNKNOWN);
        due("stick(0, -1)", x.stick(0, -1), UNKNOWN);
        due("stick(1, 0)", x.stick(1, 0), UNKNOWN);
        due("stick(-1, 0)", x.stick(-1, 0), UNKNOWN);
        due("stick() takes no TIME", x.count(3), 4 + 2 + 3 + 1 + 1);

        says("SET to a number (0 .. 1000000000): the TIME that it took. OUTSIDE; NOT: it cannot be shown.");
        x = framed("plain 10 9;plain 10 8");
        due("set(-1)", x.set(-1), OUTSIDE);
        due("set(0)", x.set(0), 0);
        due("set(89)", x.set(89), 17);
        due("set(90)", x.set(90), NOT);
        due("set(1000000000)", x.set(1000000000), NOT);
        due("set(1000000001)", x.set(1000000001), OUTSIDE);
        due("number()", x.number(), 89);
        due("count(5)", x.count(5), 2);

        says("A ROD is CARRIED: the TIME that it took. UNKNOWN; NOT: it SHOWS less than its BASE, there is no next one, it cannot be.");
        x = framed("plain 9 9;plain 2 1;plain 2 2");
        due("carry(-1)", x.carry(-1), UNKNOWN);
        due("carry(3)", x.carry(3), UNKNOWN);
        due("carry(0), it SHOWS less", x.carry(0), NOT);
        x.push(0, 0, 9);
        x.push(2, 0, 2);
        due("carry(0)", x.carry(0), 10);
        x.push(0, 0, 9);
        due("carry(0), the next one has no bead left", x.carry(0), NOT);
        due("carry(2), there is no next one", x.carry(2), NOT);
    }

    private static void undonePromises() {
        says("The latest push(), stick(), set(), carry(), run() is undone (the last 8 can be): how many can be undone yet. NOT: none.");
        due("undo() at first", new RodBeads().undo(), NOT);
        RodBeads x = framed("plain 9 9;plain 10 9");
        for (int n = 1; n <= 9; n++) {
            x.push(0, 0, n);
            due("count(5)", x.count(5), Math.min(n, 8));
        }
        for (int left = 7; left >= 0; left--) {
            due("undo()", x.undo(), left);
            due("number()", x.number(), left + 1);
            due("TIME", x.count(3), left + 1);
        }
        due("undo(), the ninth", x.undo(), NOT);
        due("number()", x.number(), 1);
        // Each of the five, with no other call among them; also those that changed no bead.
        x.push(0, 0, 1);
        x.stick(1, 1);
        x.set(9);
        due("number()", x.number(), 9);
        x.push(0, 0, 9);
        x.push(1, 0, 0);
        x.carry(0);
        write(x, "sub 2;add 1;add 100");
        due("run()", x.run(), 2);
        due("number()", x.number(), 8);
        due("undo() of run(), of all its STATEMENTS", x.undo(), 6);
        dueBeads(x, "0010");
        due("undo() of carry()", x.undo(), 5);
        dueBeads(x, "9000");
        due("undo() of push()", x.undo(), 4);
        due("undo() of push()", x.undo(), 3);
        due("undo() of set()", x.undo(), 2);
        due("number()", x.number(), 1);
        due("count(2)", x.count(2), 8);
        due("undo() of stick()", x.undo(), 1);
        due("count(2)", x.count(2), 0);
        due("undo() of push()", x.undo(), 0);
        due("number()", x.number(), 1);
        due("undo()", x.undo(), NOT);
        // Calls that were refused, that foretell, that are not named, cannot be undone.
        x.push(0, 0, 2);
        x.push(0, 0, 10);
        x.set(1000);
        x.carry(1);
        x.seen(0, 1, 1);
        x.keep(0);
        x.forget();
        x.write(1);
        x.erase();
        x.time(5);
        x.run();
        due("count(5)", x.count(5), 1);
        due("undo()", x.undo(), 0);
        due("number()", x.number(), 1);

        says("All as it is (but SEEN, what can be undone) is kept (k 0, 1): how many beads are PUSHED. UNKNOWN: no such k.");
        x = framed("five 10 4 1;plain 10 9");
        due("keep(-1)", x.keep(-1), UNKNOWN);
        due("keep(0), none PUSHED", x.keep(0), 0);
        x.set(99);
        x.stick(0, 0);
        x.seen(0, 1, 1);
        due("keep(1)", x.keep(1), 14);
        due("keep(2)", x.keep(2), UNKNOWN);
        due("count(5), as it was", x.count(5), 2);

        says("It is as it was kept, nothing can be undone: how many beads are PUSHED. UNKNOWN; NOT: nothing was kept since the last"
                + " FRAME.");
        due("back(-1)", x.back(-1), UNKNOWN);
        due("back(2)", x.back(2), UNKNOWN);
        due("back(0)", x.back(0), 0);
        due("number()", x.number(), 0);
        due("STUCK", x.count(2), 0);
        due("TIME", x.count(3), 0);
        due("SEEN, as it is", x.count(4), 1);
        due("undo()", x.undo(), NOT);
        x.forget();
        due("back(1)", x.back(1), 14);
        due("number()", x.number(), 99);
        due("STUCK", x.count(2), 1);
        due("TIME", x.count(3), 14);
        due("SEEN, as it is", x.count(4), 0);
        x.stick(0, 0);
        x.set(3);
        due("back(1) again", x.back(1), 14);
        due("number()", x.number(), 99);
        due("keep(0) anew", x.keep(0), 14);
        x.stick(0, 0);
        x.set(0);
        due("back(0)", x.back(0), 14);
        write(x, "plain 2");
        due("frame(), refused", x.frame(), NOT);
        due("back(0), no FRAME since", x.back(0), 14);
        x.erase();
        frame(x, "plain 2 1");
        due("back(0)", x.back(0), NOT);
        due("back(1)", x.back(1), NOT);
        due("keep(1)", x.keep(1), 0);
        due("back(0), only the other is kept", x.back(0), NOT);
        due("back(1)", x.back(1), 0);
    }

    private static void foretoldPromises() {
        RodBeads x = framed("five 10 4 1;plain 10 9;stuck 1 0");
        x.push(0, 0, 2);
        says("The place of the FAULT of THE TEXT, taken as a FRAME (what 0), as SUMS (1); NONE. OUTSIDE.");
        int[] places = {OUTSIDE, 0, NONE, OUTSIDE};
        write(x, "clear");
        for (int what = -1; what <= 2; what++) {
            due("fault(" + what + ")", x.fault(what), places[what + 1]);
        }
        x.erase();

        says("`int ways(int number)`: WAYS. OUTSIDE.");
        numbers(x, "ways", new long[] {OUTSIDE, 1, 1, 0, 0, OUTSIDE}, n -> x.ways(n));
        says("LEAST TIME; NONE. OUTSIDE.");
        numbers(x, "time", new long[] {OUTSIDE, 2, 3, NONE, NONE, OUTSIDE}, n -> x.time(n));
        says("NEAREST; NONE. OUTSIDE.");
        numbers(x, "nearest", new long[] {OUTSIDE, 0, 9, 9, NONE, OUTSIDE}, n -> x.nearest(n));
        says("LOOSEN; NONE. OUTSIDE.");
        numbers(x, "loosen", new long[] {OUTSIDE, 0, 0, 4, NONE, OUTSIDE}, n -> x.loosen(n));
        says("How many beads of a part of a ROD would be PUSHED, the number being SET; NONE: it cannot be shown. UNKNOWN; OUTSIDE.");
        numbers(x, "pushed", new long[] {OUTSIDE, 0, 4, NONE, NONE, OUTSIDE}, n -> x.pushed(n, 0, 0));
        numbers(x, "pushed, HIGH", new long[] {OUTSIDE, 0, 1, NONE, NONE, OUTSIDE}, n -> x.pushed(n, 0, 1));
        numbers(x, "pushed, no ROD", new long[] {-2, -2, -2, -2, -2, -2}, n -> x.pushed(n, 2, 0));
        numbers(x, "pushed, no ROD", new long[] {-2, -2, -2, -2, -2, -2}, n -> x.pushed(n, -1, 1));
        numbers(x, "pushed, no part", new long[] {-2, -2, -2, -2, -2, -2}, n -> x.pushed(n, 0, 2));
        numbers(x, "pushed, no part", new long[] {-2, -2, -2, -2, -2, -2}, n -> x.pushed(n, 1, -1));

        says("MOST (what 0), FEWEST (1), GAP (2; NONE). OUTSIDE (0: -3).");
        long[] spans = {-3, 9, 0, 10, -3};
        for (int what = -1; what <= 3; what++) {
            due("span(" + what + ")", x.span(what), spans[what + 1]);
        }

        says("TOUR: TIME (what 0), the order (1); NONE. OUTSIDE.");
        // From 2: 9 1 0 takes 8, 9 0 1 9, 1 9 0 10, 1 0 9 7, 0 9 1 11, 0 1 9 7.
        int[] tours = {OUTSIDE, 7, 3, OUTSIDE};
        int[] notShown = {OUTSIDE, NONE, NONE, OUTSIDE};
        for (int what = -1; what <= 2; what++) {
            due("tour(9, 1, 0, " + what + ")", x.tour(9, 1, 0, what), tours[what + 1]);
            due("tour(1, 0, 10, " + what + ")", x.tour(1, 0, 10, what), notShown[what + 1]);
            due("tour(1, 1000001, 10, " + what + ")", x.tour(1, 1000001, 10, what), OUTSIDE);
        }
    }

    private interface OfNumber {
        long answer(int n);
    }

    /** What is answered to the numbers at the edges: of all, and of a frame that shows 0 .. 9. */
    private static void numbers(RodBeads x, String call, long[] want, OfNumber it) {
        int[] numbers = {-1, 0, 9, 10, 1000000000, 1000000001};
        for (int i = 0; i < numbers.length; i++) {
            due(call + " of " + numbers[i], it.answer(numbers[i]), want[i]);
        }
        due("number(), nothing changes", x.number(), 2);
    }

    private static void seenPromises() {
        RodBeads x = framed("five 10 4 1");
        says("SEEN: how many. UNKNOWN; OUTSIDE; FULL.");
        for (int n = 1; n <= 6; n++) {
            due("seen(0, 4, 4)", x.seen(0, 4, 4), n);
        }
        due("seen(0, 4, 4)", x.seen(0, 4, 4), FULL);
        due("seen(0, 41, 4), OUTSIDE is ahead of FULL", x.seen(0, 41, 4), OUTSIDE);
        due("seen(0, 4, 100)", x.seen(0, 4, 100), OUTSIDE);
        due("seen(1, 41, 100), UNKNOWN is ahead of both", x.seen(1, 41, 100), UNKNOWN);
        says("KINDS, by bits. UNKNOWN.");
        due("kinds(-1)", x.kinds(-1), UNKNOWN);
        due("kinds(0)", x.kinds(0), 1 + 2 + 8);
        due("kinds(1)", x.kinds(1), UNKNOWN);
        says("SEEN is nothing: how many there were.");
        due("forget()", x.forget(), 6);
        due("forget()", x.forget(), 0);
        due("kinds(0)", x.kinds(0), 15);
        says("SLIPS. UNKNOWN; OUTSIDE.");
        due("slips(0, 0, 0, 0)", x.slips(0, 0, 0, 0), 1);
        due("slips(0, 10, 60, 0)", x.slips(0, 10, 60, 0), 0);
        due("slips(0, 10, 60, 1)", x.slips(0, 10, 60, 1), 1);
        due("slips(0, 11, 60, 1)", x.slips(0, 11, 60, 1), OUTSIDE);
        due("slips(0, 10, 61, 1)", x.slips(0, 10, 61, 1), OUTSIDE);
        due("slips(0, -1, 60, 1)", x.slips(0, -1, 60, 1), OUTSIDE);
        due("slips(0, 10, -1, 1)", x.slips(0, 10, -1, 1), OUTSIDE);
        due("slips(0, 11, 61, 2), UNKNOWN is ahead of OUTSIDE", x.slips(0, 11, 61, 2), UNKNOWN);
        due("slips(1, 11, 61, 0)", x.slips(1, 11, 61, 0), UNKNOWN);

        says("An object is used for at most 512 calls after it has been made; what later calls answer is free.");
        RodBeads y = framed("plain 10 9");
        // Ten letters and frame() were calls 1 .. 11.
        for (int call = 12; call <= 511; call++) {
            int n = (call - 11) % 10;
            due("set(" + n + "), call " + call, y.set(n), n == 0 ? 9 : 1);
        }
        due("count(3), call 512", y.count(3), 450 + 50 * 9);
    }

    private static void firstThatFits() {
        says("Refused, and nothing changes: UNKNOWN (no such ROD, part), OUTSIDE (another number is not as told), NOT (not now: as told),"
                + " FULL: the first of these that fits.");
        RodBeads x = framed("plain 10 9;five 10 4 1;stuck 0 0");
        x.keep(0);
        for (int i = 0; i < 6; i++) {
            x.seen(0, 0, 0);
        }
        for (int i = 0; i < 160; i++) {
            x.write(32);
        }
        due("rod(2, 10)", x.rod(2, 10), UNKNOWN);
        due("as(2, 5)", x.as(2, 5), UNKNOWN);
        due("as(0, 5), not FIVE either", x.as(0, 5), OUTSIDE);
        due("push(2, 0, 10)", x.push(2, 0, 10), UNKNOWN);
        due("push(0, 2, 10), STUCK, too", x.push(0, 2, 10), UNKNOWN);
        due("push(0, 0, 10), STUCK, too", x.push(0, 0, 10), OUTSIDE);
        due("push(0, 0, 9), STUCK", x.push(0, 0, 9), NOT);
        due("set(-1), cannot be shown either", x.set(-1), OUTSIDE);
        due("set(1), cannot be shown", x.set(1), NOT);
        due("carry(2)", x.carry(2), UNKNOWN);
        due("carry(1), no next one, it SHOWS less", x.carry(1), NOT);
        due("back(2), nothing kept there", x.back(2), UNKNOWN);
        due("back(1), nothing kept there", x.back(1), NOT);
        due("pushed(-1, 2, 0)", x.pushed(-1, 2, 0), UNKNOWN);
        due("pushed(-1, 0, 0), cannot be shown either", x.pushed(-1, 0, 0), OUTSIDE);
        due("seen(2, 41, 100), full, too", x.seen(2, 41, 100), UNKNOWN);
        due("seen(0, 41, 0), full, too", x.seen(0, 41, 0), OUTSIDE);
        due("seen(0, 40, 0), full", x.seen(0, 40, 0), FULL);
        due("slips(2, 11, 61, 2)", x.slips(2, 11, 61, 2), UNKNOWN);
        due("slips(0, 11, 61, 2)", x.slips(0, 11, 61, 2), UNKNOWN);
        due("slips(0, 11, 61, 1)", x.slips(0, 11, 61, 1), OUTSIDE);
        due("tour(1, 0, 0, 2), cannot be shown either", x.tour(1, 0, 0, 2), OUTSIDE);
        due("write(256), full, too", x.write(256), OUTSIDE);
        due("write(255), full", x.write(255), FULL);
    }

    private static void countPromise() {
        says("0 RODS, 1 beads that are PUSHED, 2 STUCK parts (bits, as LOOSEN's), 3 TIME in all, 4 SEEN, 5 how many can be undone, 6"
                + " letters of THE TEXT, 7 RODS that SHOW their BASE or more (bits). OUTSIDE.");
        RodBeads x = framed(times("heir 2 9 3", 6));
        due("count(-1)", x.count(-1), OUTSIDE);
        due("count(8)", x.count(8), OUTSIDE);
        for (int rod = 0; rod < 6; rod++) {
            x.push(rod, 0, 9);
            x.push(rod, 1, 3);
            x.stick(rod, 0);
            x.stick(rod, 1);
            x.seen(rod, 39, 18);
        }
        for (int i = 0; i < 160; i++) {
            x.write('a');
        }
        int[] most = {6, 72, 4095, 108, 6, 8, 160, 63};
        for (int what = 0; what < 8; what++) {
            due("count(" + what + ")", x.count(what), most[what]);
        }
        RodBeads y = framed("plain 2 9;plain 9 9;plain 3 9");
        y.push(0, 0, 1);
        y.push(1, 0, 8);
        y.push(2, 0, 2);
        due("count(7), each BASE less 1", y.count(7), 0);
        y.push(1, 0, 9);
        due("count(7)", y.count(7), 2);
        y.push(2, 0, 3);
        due("count(7)", y.count(7), 6);
        y.push(0, 0, 2);
        due("count(7)", y.count(7), 7);
    }

    /** The sentences are the document's own: where it can be read, each of them stands in it. */
    private static void sentencesStand() throws IOException {
        Path document = Path.of("../shared/DOC.md");
        if (!Files.exists(document)) {
            return;
        }
        String all = Files.readString(document, StandardCharsets.UTF_8).replaceAll("\\s+", " ");
        for (String words : SENTENCES) {
            sentence = words;
            due("the sentence stands in the document: 1", all.contains(words) ? 1 : 0, 1);
        }
    }

    public static void main(String[] args) throws IOException {
        rodsAtMost();
        bounds();
        worths();
        theNumber();
        times();
        textAtMost();
        clauses();
        stuckClauses();
        letters();
        faults();
        framesDone();
        ways();
        ties();
        carries();
        timeAtMost();
        statements();
        faultsOfSums();
        expressions();
        whatCannotBe();
        foretold();
        gaps();
        nearests();
        loosens();
        tours();
        seens();
        slips();
        toldPromises();
        donePromises();
        undonePromises();
        foretoldPromises();
        seenPromises();
        firstThatFits();
        countPromise();
        sentencesStand();
        System.out.println(SENTENCES.size() + " sentences, " + checks + " answers, " + wrong + " of them not as due");
        if (wrong != 0) {
            System.exit(1);
        }
    }
}
