/** Each promise by itself: ordinary inputs, the edges that the document names, wrong inputs. */
public final class PromisesTest {
    private static final int NONE = -1, UNKNOWN = -2, OUTSIDE = -3, NOT = -4, FULL = -5;
    private static int wrong = 0;
    private static int promise = 0;
    private static int checks = 0;

    private static void due(String call, long got, long want) {
        checks++;
        if (got != want) {
            wrong++;
            System.out.println("promise " + promise + ": " + call + " answered " + got + ", due is " + want);
        }
    }

    private static void write(RodBeads x, String text) {
        for (int i = 0; i < text.length(); i++) {
            x.write(text.charAt(i));
        }
    }

    private static RodBeads framed(String text) {
        RodBeads x = new RodBeads();
        write(x, text);
        due("frame() of " + text, x.frame(), text.split(";").length);
        return x;
    }

    private static void dueFault(RodBeads x, String text, int what, int want) {
        write(x, text);
        due("fault(" + what + ") of \"" + text + "\"", x.fault(what), want);
        due("fault(" + what + ") again", x.fault(what), want);
        due("erase()", x.erase(), text.length());
    }

    private static void dueRun(RodBeads x, String text, int done, long number) {
        write(x, text);
        due("run() of " + text, x.run(), done);
        due("number() behind " + text, x.number(), number);
        due("letters behind " + text, x.count(6), 0);
    }

    /** A row of the same clause, n times. */
    private static String times(String clause, int n) {
        StringBuilder text = new StringBuilder(clause);
        for (int i = 1; i < n; i++) {
            text.append(';').append(clause);
        }
        return text.toString();
    }

    private static void newObject() {
        promise = 1;
        RodBeads x = new RodBeads();
        for (int what = 0; what < 8; what++) {
            due("count(" + what + ")", x.count(what), 0);
        }
        due("rod(0, 0)", x.rod(0, 0), UNKNOWN);
        due("number()", x.number(), 0);
        RodBeads y = framed("plain 10 9");
        y.push(0, 0, 3);
        due("another object's rods", x.count(0), 0);
        due("a new object's rods", new RodBeads().count(0), 0);
    }

    private static void letters() {
        promise = 2;
        RodBeads x = new RodBeads();
        due("write(-1)", x.write(-1), OUTSIDE);
        due("write(256)", x.write(256), OUTSIDE);
        due("write(least)", x.write(Integer.MIN_VALUE), OUTSIDE);
        due("count(6)", x.count(6), 0);
        due("write(0)", x.write(0), 1);
        due("write(255)", x.write(255), 2);
        for (int i = 3; i <= 160; i++) {
            due("write(32)", x.write(32), i);
        }
        due("write the 161st", x.write(32), FULL);
        due("write(256), full", x.write(256), OUTSIDE);
        due("count(6)", x.count(6), 160);
        promise = 3;
        due("erase()", x.erase(), 160);
        due("erase() again", x.erase(), 0);
        due("write(97)", x.write(97), 1);
        due("erase()", x.erase(), 1);
    }

    private static void frameFaults() {
        promise = 4;
        RodBeads x = new RodBeads();
        due("fault(-1)", x.fault(-1), OUTSIDE);
        due("fault(2)", x.fault(2), OUTSIDE);
        dueFault(x, "", 0, 0);
        dueFault(x, "   ", 0, 3);
        dueFault(x, "frame", 0, NONE);
        dueFault(x, "  frame  ", 0, NONE);
        dueFault(x, "frame ;  ", 0, 9);
        dueFault(x, ";frame", 0, 0);
        dueFault(x, "frame;;frame", 0, 6);
        dueFault(x, "frame frame", 0, 6);
        dueFault(x, "frames", 0, 0);
        dueFault(x, "fram", 0, 0);
        dueFault(x, "Frame", 0, 0);
        dueFault(x, "frame.", 0, 5);
        dueFault(x, "frame\t", 0, 5);
        dueFault(x, "framea", 0, 0);
        dueFault(x, "framez", 0, 0);
        dueFault(x, "frame`", 0, 5);
        dueFault(x, "frame{", 0, 5);
        dueFault(x, "prame", 0, 0);
        dueFault(x, "blain 2 1", 0, 0);
        dueFault(x, "hive 2 1 1", 0, 0);
        dueFault(x, "flow 2 1 1", 0, 0);
        dueFault(x, "weir 2 1 1", 0, 0);
        dueFault(x, "plain 2 1;ttuck 0 0", 0, 10);
        dueFault(x, "clear", 0, 0);
        dueFault(x, "plain 10:9", 0, 8);
        dueFault(x, "plain 10/9", 0, 8);
        dueFault(x, "plain 2 1", 0, NONE);
        dueFault(x, "plain 16 9", 0, NONE);
        dueFault(x, "plain16 9", 0, NONE);
        dueFault(x, "plain 02 09", 0, NONE);
        dueFault(x, "plain 002 9", 0, 6);
        dueFault(x, "plain 1 9", 0, 6);
        dueFault(x, "plain 17 9", 0, 6);
        dueFault(x, "plain 10 0", 0, 9);
        dueFault(x, "plain 10 10", 0, 9);
        dueFault(x, "plain 10 9 0", 0, 11);
        dueFault(x, "plain 10", 0, 8);
        dueFault(x, "plain 10 ", 0, 9);
        dueFault(x, "plain", 0, 5);
        dueFault(x, "plain;", 0, 5);
        dueFault(x, "plain ten 9", 0, 6);
        dueFault(x, "plain -2 9", 0, 6);
        dueFault(x, "plain 99999999999999999999 9", 0, 6);
        dueFault(x, "five 2 1 0", 0, NONE);
        dueFault(x, "five 10 4 3", 0, NONE);
        dueFault(x, "five 10 4 4", 0, 10);
        dueFault(x, "slow 10 4", 0, 9);
        dueFault(x, "heir 16 9 003", 0, 10);
        dueFault(x, "heir 16 9 03", 0, NONE);
        dueFault(x, "heir 16 9 3 1", 0, 12);
    }

    private static void frameFaultsOfRods() {
        promise = 4;
        RodBeads x = new RodBeads();
        dueFault(x, "stuck", 0, 5);
        dueFault(x, "stuck 0 0", 0, 6);
        dueFault(x, "stuck 0 0;plain 2 1", 0, 6);
        dueFault(x, "plain 2 1;stuck 0 0", 0, NONE);
        dueFault(x, "plain 2 1;stuck 0 1", 0, NONE);
        dueFault(x, "plain 2 1;stuck 0 2", 0, 18);
        dueFault(x, "plain 2 1;stuck 1 0", 0, 16);
        dueFault(x, "plain 2 1;stuck 0", 0, 17);
        dueFault(x, "plain 2 1;frame;stuck 0 0", 0, 22);
        dueFault(x, times("plain 2 1", 6), 0, NONE);
        dueFault(x, times("plain 2 1", 7), 0, 60);
        dueFault(x, times("plain 2 1", 6) + ";frame;plain 2 1", 0, NONE);
        dueFault(x, times("plain 2 1", 6) + ";plain", 0, 60);
        dueFault(x, times("frame", 12), 0, NONE);
        dueFault(x, times("frame", 13), 0, 71);
        dueFault(x, times("frame", 12) + ";", 0, 71);
        RodBeads y = framed(times("five 10 4 1", 6));
        promise = 4;
        dueFault(y, "plain 2 1", 0, 0);
        dueFault(y, "stuck 5 1", 0, NONE);
        dueFault(y, "stuck 6 1", 0, 6);
        dueFault(y, "frame;plain 2 1", 0, NONE);
        dueFault(y, "frame;stuck 0 0", 0, 12);
        due("count(0), faults change nothing", y.count(0), 6);
        due("count(2), faults change nothing", y.count(2), 0);
    }

    private static void sumsFaults() {
        promise = 4;
        RodBeads x = framed("plain 10 9;plain 10 9");
        promise = 4;
        dueFault(x, "", 1, 0);
        dueFault(x, " ", 1, 1);
        dueFault(x, "clear", 1, NONE);
        dueFault(x, "clear 1", 1, 6);
        dueFault(x, "clear;", 1, 6);
        dueFault(x, "frame", 1, 0);
        dueFault(x, "bet 1", 1, 0);
        dueFault(x, "odd 1", 1, 0);
        dueFault(x, "hub 1", 1, 0);
        dueFault(x, "blear", 1, 0);
        dueFault(x, "harry 0", 1, 0);
        dueFault(x, "set", 1, 3);
        dueFault(x, "set5", 1, NONE);
        dueFault(x, "set 1234567", 1, NONE);
        dueFault(x, "set 12345678", 1, 4);
        dueFault(x, "set 00000001", 1, 4);
        dueFault(x, "set -1", 1, 4);
        dueFault(x, "set 1 2", 1, 6);
        dueFault(x, "set 1+", 1, 6);
        dueFault(x, "set 1++2", 1, 6);
        dueFault(x, "set 1*/2", 1, 6);
        dueFault(x, "set 1/0", 1, NONE);
        dueFault(x, "set #", 1, NONE);
        dueFault(x, "set ##", 1, 5);
        dueFault(x, "set (1", 1, 6);
        dueFault(x, "set (1;clear", 1, 6);
        dueFault(x, "set 1)", 1, 5);
        dueFault(x, "set ()", 1, 5);
        dueFault(x, "set ( 1 + 2 ) * ( # - 3 ) / 4", 1, NONE);
        dueFault(x, "set ((((((1))))))", 1, NONE);
        dueFault(x, "set (((((((1)))))))", 1, 10);
        dueFault(x, "set (((((((", 1, 10);
        dueFault(x, "set ((((((1))))))+((((((2))))))", 1, NONE);
        dueFault(x, "set one", 1, 4);
        dueFault(x, "set 2a", 1, 5);
        dueFault(x, "add 1;sub 2;carry 0;carry 1;clear", 1, NONE);
        dueFault(x, "carry 2", 1, 6);
        dueFault(x, "carry", 1, 5);
        dueFault(x, "carry #", 1, 6);
        dueFault(x, "carry 001", 1, 6);
        dueFault(x, "carry 01", 1, NONE);
        dueFault(x, "carry 0+1", 1, 7);
        dueFault(x, times("clear", 12), 1, NONE);
        dueFault(x, times("clear", 13), 1, 71);
        dueFault(new RodBeads(), "carry 0", 1, 6);
    }

    private static void frames() {
        promise = 5;
        RodBeads x = framed("plain 10 9;five 10 4 1;stuck 0 0");
        due("stick(0, 0)", x.stick(0, 0), 0);
        due("stick(1, 0)", x.stick(1, 0), 1);
        x.push(0, 0, 4);
        x.seen(0, 1, 1);
        x.keep(0);
        x.keep(1);
        write(x, "plain 1 1");
        due("frame() of a fault", x.frame(), NOT);
        due("letters then", x.count(6), 9);
        due("number then", x.number(), 4);
        x.erase();
        write(x, "heir 4 2 1 ; stuck 2 1");
        due("frame()", x.frame(), 2);
        due("RODS: what earlier texts told stays", x.count(0), 3);
        due("number", x.number(), 0);
        due("PUSHED", x.count(1), 0);
        due("STUCK as told", x.count(2), 1 + 32);
        due("TIME", x.count(3), 0);
        due("SEEN", x.count(4), 0);
        due("undone", x.count(5), 0);
        due("letters", x.count(6), 0);
        due("back(0)", x.back(0), NOT);
        due("back(1)", x.back(1), NOT);
        write(x, "plain 5 5;frame;slow 3 2 1;frame;five 7 6 0;stuck 0 1;stuck 0 1");
        due("frame()", x.frame(), 7);
        due("RODS", x.count(0), 1);
        due("STUCK", x.count(2), 2);
        due("KIND", x.rod(0, 0), 1);
        due("BASE", x.rod(0, 1), 7);
        due("frame() of no text", x.frame(), NOT);
        write(x, "frame");
        due("frame()", x.frame(), 1);
        due("RODS", x.count(0), 0);
        due("STUCK", x.count(2), 0);
    }

    private static void sums() {
        promise = 6;
        RodBeads x = framed("plain 10 9;plain 10 9;plain 10 9");
        promise = 6;
        dueRun(x, "set 12", 1, 12);
        dueRun(x, "add 30;sub 2", 2, 40);
        dueRun(x, "set 2+3*4", 1, 14);
        dueRun(x, "set (2+3)*4", 1, 20);
        dueRun(x, "set 100-10-1", 1, 89);
        dueRun(x, "set 100/10/5", 1, 2);
        dueRun(x, "set 7/2*2", 1, 6);
        dueRun(x, "set 20+(1-8)/2", 1, 17);
        dueRun(x, "set #*#;add #", 2, 578);
        dueRun(x, "set 5;sub 6;set 7", 1, 5);
        dueRun(x, "set 5;sub 0-6;set 7", 3, 7);
        dueRun(x, "set 8;set 1/0;set 9", 1, 8);
        dueRun(x, "set 6;set 1000;set 9", 1, 6);
        dueRun(x, "set 0-1", 0, 6);
        dueRun(x, "set 1000000*1000000/1000000/1000", 0, 6);
        dueRun(x, "set 1000000*1000000/1000000/10000", 1, 100);
        dueRun(x, "set 1000000*1000000+1-1000000*1000000", 0, 100);
        dueRun(x, "set 0-1000000*1000000+1000000*1000000", 1, 0);
        dueRun(x, "set 0-1000000*1000000-1+1000000*1000000", 0, 0);
        dueRun(x, "set 999999*1000000+1000000-1000000*1000000", 1, 0);
        dueRun(x, "set (1000000*1000000+1)*0", 0, 0);
        dueRun(x, "set (0-1000000*1000000-1)*0", 0, 0);
        // 2 to the power of 32, and 5: no 5.
        dueRun(x, "set 4294967*1000+301", 0, 0);
        dueRun(x, "sub 0-4294967*1000-301", 0, 0);
        dueRun(x, "set 9999999*9999999*9999999*9999999*0", 0, 0);
        dueRun(x, "set 9999999*0*9999999*9999999", 1, 0);
        dueRun(x, "set 5;carry 2", 1, 5);
        dueRun(x, "carry 0", 0, 5);
        due("a run in which nothing was done can be undone, too", x.undo(), 7);
        due("number", x.number(), 5);
        write(x, "set 1;set");
        due("run() of a fault", x.run(), NOT);
        due("letters then", x.count(6), 9);
        due("number then", x.number(), 5);
        due("undone then", x.count(5), 7);
        RodBeads y = framed("five 5 4 1;plain 10 9;stuck 1 0");
        promise = 6;
        dueRun(y, "set 9", 1, 9);
        dueRun(y, "clear;set 3;clear;clear", 4, 0);
        due("TIME", y.count(3), 5 + 5 + 3 + 3);
        y.push(0, 0, 4);
        y.push(0, 1, 1);
        dueRun(y, "carry 0", 0, 9);
        y.stick(1, 0);
        dueRun(y, "carry 0;carry 0", 1, 9);
        due("SHOWS", y.rod(0, 8), 4);
        due("SHOWS", y.rod(1, 8), 1);
        y.stick(0, 0);
        dueRun(y, "clear", 1, 4);
        RodBeads z = framed("slow 8 5 1;heir 8 4 2");
        promise = 6;
        z.push(0, 0, 5);
        z.push(0, 1, 1);
        z.push(1, 0, 4);
        z.push(1, 1, 2);
        due("TIME", z.count(3), 12 + 4 + 6);
        dueRun(z, "clear", 1, 0);
        due("TIME", z.count(3), 44);
    }

    private static void rods() {
        promise = 7;
        RodBeads x = framed("heir 12 3 2;plain 2 9;slow 16 5 3;five 3 1 0;stuck 0 1;stuck 2 0");
        promise = 7;
        x.push(0, 0, 2);
        x.push(2, 1, 3);
        x.push(1, 0, 7);
        int[][] told = {{3, 12, 3, 2, 2, 0, 0, 1, 2, 11}, {0, 2, 9, 0, 7, 0, 0, 0, 7, 9},
            {2, 16, 5, 3, 0, 3, 1, 0, 15, 20}, {1, 3, 1, 0, 0, 0, 0, 0, 0, 1}};
        for (int rod = 0; rod < 4; rod++) {
            for (int what = 0; what < 10; what++) {
                due("rod(" + rod + ", " + what + ")", x.rod(rod, what), told[rod][what]);
            }
        }
        due("rod(4, 0)", x.rod(4, 0), UNKNOWN);
        due("rod(-1, 0)", x.rod(-1, 0), UNKNOWN);
        due("rod(4, 10)", x.rod(4, 10), UNKNOWN);
        due("rod(least, 0)", x.rod(Integer.MIN_VALUE, 0), UNKNOWN);
        due("rod(0, 10)", x.rod(0, 10), OUTSIDE);
        due("rod(0, -1)", x.rod(0, -1), OUTSIDE);
        promise = 8;
        due("number()", x.number(), 2 + 7 * 12 + 15 * 24);
        RodBeads all = framed(times("heir 16 9 3", 6));
        promise = 8;
        for (int rod = 0; rod < 6; rod++) {
            all.push(rod, 0, 9);
            all.push(rod, 1, 3);
        }
        due("number()", all.number(), 43620759);
    }

    private static void kindsOverOneAnother() {
        promise = 9;
        RodBeads x = framed("plain 10 9;five 10 4 1;slow 7 6 1;heir 12 3 2;heir 12 9 0");
        promise = 9;
        int[][] told = {{0, 0, NOT, NOT, NOT}, {5, NOT, 5, NOT, NOT}, {5, NOT, 5, 5, NOT},
            {4, NOT, 4, NOT, 4}, {10, NOT, 10, NOT, 10}};
        for (int rod = 0; rod < 5; rod++) {
            for (int kind = 0; kind < 5; kind++) {
                due("as(" + rod + ", " + kind + ")", x.as(rod, kind), told[rod][kind]);
            }
        }
        due("as(0, -1)", x.as(0, -1), OUTSIDE);
        due("as(0, 5)", x.as(0, 5), OUTSIDE);
        due("as(5, 0)", x.as(5, 0), UNKNOWN);
        due("as(-1, 9)", x.as(-1, 9), UNKNOWN);
    }

    private static void pushes() {
        promise = 10;
        RodBeads x = framed("plain 10 9;five 10 4 2;slow 7 6 1;heir 12 3 2;stuck 3 0");
        promise = 10;
        due("push(0, 0, 9)", x.push(0, 0, 9), 9);
        due("push(0, 0, 4)", x.push(0, 0, 4), 5);
        due("push(0, 0, 4) again", x.push(0, 0, 4), 0);
        due("push(0, 0, 10)", x.push(0, 0, 10), OUTSIDE);
        due("push(0, 0, -1)", x.push(0, 0, -1), OUTSIDE);
        due("push(0, 1, 0)", x.push(0, 1, 0), 0);
        due("push(0, 1, 1)", x.push(0, 1, 1), OUTSIDE);
        due("push(1, 1, 2)", x.push(1, 1, 2), 2);
        due("push(1, 0, 4)", x.push(1, 0, 4), 4);
        due("push(2, 0, 6)", x.push(2, 0, 6), 12);
        due("push(2, 1, 1)", x.push(2, 1, 1), 2);
        due("push(3, 1, 2)", x.push(3, 1, 2), 6);
        due("push(3, 1, 1)", x.push(3, 1, 1), 3);
        due("push(3, 0, 1)", x.push(3, 0, 1), NOT);
        due("push(3, 0, 0)", x.push(3, 0, 0), NOT);
        due("push(3, 0, 4)", x.push(3, 0, 4), OUTSIDE);
        due("push(4, 0, 0)", x.push(4, 0, 0), UNKNOWN);
        due("push(0, 2, 0)", x.push(0, 2, 0), UNKNOWN);
        due("push(0, -1, 99)", x.push(0, -1, 99), UNKNOWN);
        due("TIME", x.count(3), 9 + 5 + 2 + 4 + 12 + 2 + 6 + 3);
        due("PUSHED", x.count(1), 4 + 6 + 7 + 1);
        due("number", x.number(), 4 + 140 + 1100 + 4 * 700);
        promise = 11;
        due("stick(0, 0)", x.stick(0, 0), 1);
        due("stick(3, 0)", x.stick(3, 0), 0);
        due("stick(0, 1)", x.stick(0, 1), 1);
        due("stick(0, 1)", x.stick(0, 1), 0);
        due("stick(3, 1)", x.stick(3, 1), 1);
        due("count(2)", x.count(2), 1 + 128);
        due("push(3, 0, 1)", x.push(3, 0, 1), 1);
        due("push(0, 0, 1)", x.push(0, 0, 1), NOT);
        due("stick(4, 0)", x.stick(4, 0), UNKNOWN);
        due("stick(-1, 0)", x.stick(-1, 0), UNKNOWN);
        due("stick(0, 2)", x.stick(0, 2), UNKNOWN);
        due("stick(0, -1)", x.stick(0, -1), UNKNOWN);
        due("number is as it was", x.number(), 4 + 140 + 1100 + 5 * 700);
    }

    private static void sets() {
        promise = 12;
        RodBeads x = framed("five 10 9 1;five 10 9 1");
        promise = 12;
        due("set(-1)", x.set(-1), OUTSIDE);
        due("set(1000000001)", x.set(1000000001), OUTSIDE);
        due("set(1000000000)", x.set(1000000000), NOT);
        due("set(155)", x.set(155), NOT);
        due("nothing was done", x.count(5), 0);
        due("set(154)", x.set(154), 20);
        due("set(0)", x.set(0), 20);
        due("set(5)", x.set(5), 1);
        due("HIGH", x.rod(0, 5), 1);
        due("set(5) again", x.set(5), 0);
        due("TIME", x.count(3), 41);
        x.push(0, 1, 0);
        x.push(0, 0, 9);
        // 10 by 5 LOW and the HIGH one (4 + 1), or by 1 of rod 1 (9 + 1).
        due("set(10)", x.set(10), 5);
        due("LOW", x.rod(0, 4), 5);
        due("HIGH", x.rod(0, 5), 1);
        // From 3 LOW ones 2 LOW, 1 HIGH (2), or 7 LOW (4).
        x.set(0);
        x.push(0, 0, 3);
        due("set(7)", x.set(7), 2);
        due("HIGH", x.rod(0, 5), 1);
        // 5 by 5 LOW (3) or by a HIGH one (1 + 2): the fewest HIGH ones.
        RodBeads y = framed("five 10 9 1");
        promise = 12;
        y.push(0, 0, 2);
        due("set(5)", y.set(5), 3);
        due("LOW", y.rod(0, 4), 5);
        due("HIGH", y.rod(0, 5), 0);
        // 2 by 2 of rod 0 (2), by 1 of rod 1 (1).
        RodBeads z = framed("plain 2 9;plain 2 9;plain 2 9");
        promise = 12;
        due("set(2)", z.set(2), 1);
        due("rod(1, 4)", z.rod(1, 4), 1);
        // 3 from 1 on rod 1: 1 of rod 0.
        due("set(3)", z.set(3), 1);
        due("set(0)", z.set(0), 2);
        z.push(0, 0, 2);
        z.push(1, 0, 1);
        // 2 now by 0 and 1 (2), by 2 and 0 (1).
        due("set(2)", z.set(2), 1);
        due("rod(0, 4)", z.rod(0, 4), 2);
        // 6 by (2, 2) 2, (2, 0, 1) 1, (0, 1, 1) 4 ..
        due("set(6)", z.set(6), 1);
        due("rod(2, 4)", z.rod(2, 4), 1);
        // 7 from (3, 1, 0) by (3, 2, 0) 1, (5, 1, 0) 2, (3, 0, 1) 2.
        z.push(2, 0, 0);
        z.push(0, 0, 3);
        z.push(1, 0, 1);
        due("set(7)", z.set(7), 1);
        due("rod(1, 4)", z.rod(1, 4), 2);
    }

    private static void setTies() {
        promise = 12;
        RodBeads x = framed("plain 2 3;plain 3 3");
        promise = 12;
        x.push(0, 0, 2);
        x.push(1, 0, 1);
        // 8 by (2, 3) alone; 6 from there by (2, 2) 1, (0, 3) 2.
        due("set(8)", x.set(8), 2);
        due("set(6)", x.set(6), 1);
        due("rod(0, 4)", x.rod(0, 4), 2);
        // Rod 0 with a slow rod 1: from (1, 0): 3 by (3, 0) 2, by (1, 1) 2: the fewest LOW ones on rod 0.
        RodBeads y = framed("plain 2 3;slow 3 3 0");
        promise = 12;
        y.push(0, 0, 1);
        due("set(3)", y.set(3), 2);
        due("rod(0, 4)", y.rod(0, 4), 1);
        due("rod(1, 4)", y.rod(1, 4), 1);
        // STUCK: as they are.
        y.stick(1, 0);
        due("set(0)", y.set(0), NOT);
        due("set(6)", y.set(6), NOT);
        due("set(2)", y.set(2), 1);
        due("rod(1, 4)", y.rod(1, 4), 1);
        // HIGH comes ahead of LOW, and rod 0 ahead of rod 1: 5 by 5 LOW of rod 0 or by a HIGH one, or by rod 1.
        RodBeads z = framed("five 5 9 1;slow 5 3 0");
        promise = 12;
        z.push(0, 0, 3);
        // 6 by 6 LOW (3), HIGH and 1 LOW (1 + 2), rod 1 and 1 LOW (2 + 2).
        due("set(6)", z.set(6), 3);
        due("rod(0, 5)", z.rod(0, 5), 0);
        due("rod(0, 4)", z.rod(0, 4), 6);
    }

    private static void carries() {
        promise = 13;
        RodBeads x = framed("five 5 9 2;heir 4 2 1;plain 2 1");
        promise = 13;
        due("carry(0), 0 is less than 5", x.carry(0), NOT);
        x.push(0, 0, 4);
        due("carry(0), 4 is less than 5", x.carry(0), NOT);
        x.push(0, 0, 5);
        due("carry(0)", x.carry(0), 6);
        due("rod(0, 8)", x.rod(0, 8), 0);
        due("rod(1, 8)", x.rod(1, 8), 1);
        due("number", x.number(), 5);
        x.push(0, 0, 3);
        x.push(0, 1, 2);
        due("carry(0)", x.carry(0), 2);
        due("rod(0, 5)", x.rod(0, 5), 1);
        due("rod(1, 4)", x.rod(1, 4), 2);
        // The heir's next one is its HIGH bead: 3, and its 2 LOW ones back; of the five the HIGH one back.
        due("carry(0)", x.carry(0), 1 + 3 + 2);
        due("rod(1, 5)", x.rod(1, 5), 1);
        due("number", x.number(), 18);
        x.push(1, 0, 2);
        x.push(0, 0, 9);
        // 5 on the heir is the most: 6 cannot be.
        due("carry(0)", x.carry(0), NOT);
        due("carry(1)", x.carry(1), 1 + 3 + 1);
        due("rod(1, 4)", x.rod(1, 4), 1);
        due("rod(2, 4)", x.rod(2, 4), 1);
        due("number", x.number(), 9 + 25);
        due("carry(2), no next one", x.carry(2), NOT);
        due("carry(3)", x.carry(3), UNKNOWN);
        due("carry(-1)", x.carry(-1), UNKNOWN);
        x.stick(1, 0);
        // 9 less 5 by 4 LOW; the heir's 1 more cannot be, its LOW ones being STUCK.
        due("carry(0)", x.carry(0), NOT);
        x.stick(1, 0);
        x.stick(0, 0);
        due("carry(0), its LOW ones STUCK", x.carry(0), NOT);
        x.stick(0, 0);
        due("carry(0)", x.carry(0), 5 + 1);
        due("number", x.number(), 34);
    }

    private static void undos() {
        promise = 14;
        RodBeads x = framed("plain 10 9;plain 10 9");
        promise = 14;
        due("undo()", x.undo(), NOT);
        x.push(0, 0, 9);
        x.stick(0, 0);
        x.stick(0, 0);
        x.set(12);
        write(x, "add 1;add 1");
        x.run();
        x.keep(0);
        x.seen(0, 1, 1);
        due("undo() of run()", x.undo(), 4);
        due("number", x.number(), 12);
        due("TIME", x.count(3), 9 + 8);
        due("undo() of set()", x.undo(), 3);
        due("number", x.number(), 9);
        due("TIME", x.count(3), 9);
        due("undo() of stick()", x.undo(), 2);
        due("STUCK", x.count(2), 1);
        due("undo() of stick()", x.undo(), 1);
        due("STUCK", x.count(2), 0);
        due("undo() of push()", x.undo(), 0);
        due("number", x.number(), 0);
        due("TIME", x.count(3), 0);
        due("SEEN", x.count(4), 1);
        due("undo()", x.undo(), NOT);
        for (int i = 1; i <= 9; i++) {
            x.push(0, 0, i);
        }
        due("push(0, 0, 10)", x.push(0, 0, 10), OUTSIDE);
        due("count(5)", x.count(5), 8);
        for (int i = 7; i >= 0; i--) {
            due("undo()", x.undo(), i);
            due("number", x.number(), i + 1);
        }
        due("undo()", x.undo(), NOT);
        RodBeads y = framed("plain 2 9;plain 10 9");
        promise = 14;
        y.push(0, 0, 4);
        y.carry(0);
        due("undo() of carry()", y.undo(), 1);
        due("rod(0, 8)", y.rod(0, 8), 4);
        due("rod(1, 8)", y.rod(1, 8), 0);
    }

    private static void keeps() {
        promise = 16;
        due("back(0) of a new object", new RodBeads().back(0), NOT);
        due("back(1) of a new object", new RodBeads().back(1), NOT);
        RodBeads x = framed("five 10 4 1;plain 10 9");
        promise = 15;
        due("keep(-1)", x.keep(-1), UNKNOWN);
        due("keep(2)", x.keep(2), UNKNOWN);
        due("keep(32)", x.keep(32), UNKNOWN);
        x.set(27);
        x.stick(0, 1);
        due("keep(0)", x.keep(0), 5);
        promise = 16;
        due("back(-1)", x.back(-1), UNKNOWN);
        due("back(2)", x.back(2), UNKNOWN);
        due("back(1)", x.back(1), NOT);
        x.set(5);
        x.stick(1, 0);
        x.seen(1, 3, 3);
        due("keep(1)", x.keep(1), 1);
        due("count(5), keep() leaves it", x.count(5), 4);
        due("back(0)", x.back(0), 5);
        due("number", x.number(), 27);
        due("STUCK", x.count(2), 2);
        due("TIME", x.count(3), 5);
        due("SEEN", x.count(4), 1);
        due("undone", x.count(5), 0);
        due("undo()", x.undo(), NOT);
        due("back(1)", x.back(1), 1);
        due("number", x.number(), 5);
        due("STUCK", x.count(2), 2 + 4);
        due("TIME", x.count(3), 9);
        x.push(0, 0, 3);
        due("back(1) again", x.back(1), 1);
        due("number", x.number(), 5);
    }

    private static void foretold() {
        RodBeads x = framed("five 2 9 1;slow 3 4 1;plain 10 3");
        x.push(0, 0, 2);
        x.push(1, 0, 1);
        promise = 17;
        due("ways(-1)", x.ways(-1), OUTSIDE);
        due("ways(1000000001)", x.ways(1000000001), OUTSIDE);
        due("ways(1000000000)", x.ways(1000000000), 0);
        due("ways(0)", x.ways(0), 1);
        // 5: 5 LOW, a HIGH one, 3 LOW and 1 of rod 1, 1 LOW and 2.
        due("ways(5)", x.ways(5), 4);
        due("ways(50)", x.ways(50), 1);
        due("ways(51)", x.ways(51), 0);
        promise = 18;
        due("time(-1)", x.time(-1), OUTSIDE);
        due("time(1000000001)", x.time(1000000001), OUTSIDE);
        due("time(4)", x.time(4), 0);
        due("time(5)", x.time(5), 1);
        due("time(6)", x.time(6), 2);
        due("time(0)", x.time(0), 4);
        due("time(10)", x.time(10), 1);
        due("time(50)", x.time(50), 7 + 1 + 6 + 2 + 3);
        due("time(51)", x.time(51), NONE);
        promise = 19;
        due("pushed(6, 0, 0)", x.pushed(6, 0, 0), 2);
        due("pushed(6, 1, 0)", x.pushed(6, 1, 0), 2);
        due("pushed(10, 2, 0)", x.pushed(10, 2, 0), 1);
        due("pushed(10, 2, 1)", x.pushed(10, 2, 1), 0);
        due("pushed(50, 1, 1)", x.pushed(50, 1, 1), 1);
        due("pushed(51, 0, 0)", x.pushed(51, 0, 0), NONE);
        due("pushed(0, 3, 0)", x.pushed(0, 3, 0), UNKNOWN);
        due("pushed(-1, 0, 2)", x.pushed(-1, 0, 2), UNKNOWN);
        due("pushed(-1, 0, 0)", x.pushed(-1, 0, 0), OUTSIDE);
        due("pushed(1000000001, 0, 0)", x.pushed(1000000001, 0, 0), OUTSIDE);
        due("nothing changes", x.number(), 4);
        due("nothing changes", x.count(3), 4);
        due("nothing changes", x.count(5), 2);
        x.stick(0, 0);
        promise = 17;
        due("ways(5), STUCK", x.ways(5), 0);
        due("ways(7), STUCK", x.ways(7), 1);
        promise = 18;
        due("time(5), STUCK", x.time(5), NONE);
        due("time(7), STUCK", x.time(7), 3);
    }

    private static void spans() {
        promise = 20;
        RodBeads x = framed("plain 10 4;plain 10 9;plain 10 9");
        promise = 20;
        due("span(-1)", x.span(-1), OUTSIDE);
        due("span(3)", x.span(3), OUTSIDE);
        due("MOST", x.span(0), 994);
        due("FEWEST", x.span(1), 0);
        due("GAP", x.span(2), 5);
        x.push(2, 0, 3);
        x.stick(2, 0);
        due("MOST", x.span(0), 394);
        due("FEWEST", x.span(1), 300);
        due("GAP", x.span(2), 305);
        // 0 .. 499 and 500 can be shown: none; 0 .. 499 alone: 500.
        RodBeads y = framed("plain 10 9;plain 10 9;plain 10 5");
        promise = 20;
        due("GAP, 599 the most", y.span(2), NONE);
        RodBeads z = framed("plain 10 9;plain 10 9;plain 10 4");
        promise = 20;
        due("GAP, 499 the most", z.span(2), 500);
        RodBeads w = framed("plain 2 1;plain 2 1");
        promise = 20;
        due("GAP above the most", w.span(2), 4);
        RodBeads all = framed(times("heir 16 9 3", 6));
        promise = 20;
        due("MOST of all", all.span(0), 43620759);
        due("GAP", all.span(2), NONE);
    }

    private static void nearests() {
        promise = 21;
        RodBeads x = framed("plain 10 4;plain 16 9;plain 10 9;plain 2 1");
        promise = 21;
        due("nearest(-1)", x.nearest(-1), OUTSIDE);
        due("nearest(1000000001)", x.nearest(1000000001), OUTSIDE);
        due("nearest(1000000000)", x.nearest(1000000000), NONE);
        due("nearest(3)", x.nearest(3), 3);
        due("nearest(7), of two the lesser", x.nearest(7), 4);
        due("nearest(8)", x.nearest(8), 10);
        due("nearest(6)", x.nearest(6), 4);
        due("nearest(127), above all of 94, below 160", x.nearest(127), 94);
        due("nearest(128)", x.nearest(128), 160);
        due("MOST", x.span(0), 3134);
        due("nearest(3634)", x.nearest(3634), 3134);
        due("nearest(3635)", x.nearest(3635), NONE);
        for (int rod = 0; rod < 4; rod++) {
            x.push(rod, 0, 1);
            x.stick(rod, 0);
        }
        due("number", x.number(), 1771);
        due("nearest(1271)", x.nearest(1271), 1771);
        due("nearest(1270)", x.nearest(1270), NONE);
        due("nearest(2271)", x.nearest(2271), 1771);
        due("nearest(2272)", x.nearest(2272), NONE);
    }

    private static void loosens() {
        promise = 22;
        RodBeads x = framed("five 10 4 1;five 10 4 1;stuck 0 0;stuck 0 1;stuck 1 0;stuck 1 1");
        promise = 22;
        due("loosen(-1)", x.loosen(-1), OUTSIDE);
        due("loosen(1000000001)", x.loosen(1000000001), OUTSIDE);
        due("loosen(1000000000)", x.loosen(1000000000), NONE);
        due("loosen(0)", x.loosen(0), 0);
        due("loosen(3)", x.loosen(3), 1);
        due("loosen(5)", x.loosen(5), 2);
        due("loosen(7)", x.loosen(7), 3);
        due("loosen(20)", x.loosen(20), 4);
        due("loosen(50)", x.loosen(50), 8);
        due("loosen(99)", x.loosen(99), 15);
        due("loosen(100)", x.loosen(100), NONE);
        x.stick(0, 0);
        due("loosen(99)", x.loosen(99), 14);
        due("STUCK as they were", x.count(2), 14);
        // 10 by 10 of rod 0 (LOW and HIGH: two), or by 1 of rod 1: one, though its bit is greater.
        RodBeads y = framed("five 10 9 1;plain 10 1;stuck 0 0;stuck 0 1;stuck 1 0");
        promise = 22;
        due("loosen(10)", y.loosen(10), 4);
        due("loosen(19)", y.loosen(19), 5);
        // 5 by the LOW ones or the HIGH one: of as few the least.
        due("loosen(5)", y.loosen(5), 1);
        due("loosen(11)", y.loosen(11), 3);
    }

    private static void tours() {
        promise = 23;
        RodBeads x = framed("plain 10 9;plain 10 9;plain 10 9");
        promise = 23;
        due("tour(-1, 0, 0, 0)", x.tour(-1, 0, 0, 0), OUTSIDE);
        due("tour(0, 1000001, 0, 0)", x.tour(0, 1000001, 0, 0), OUTSIDE);
        due("tour(0, 0, -1, 0)", x.tour(0, 0, -1, 0), OUTSIDE);
        due("tour(0, 0, 0, 2)", x.tour(0, 0, 0, 2), OUTSIDE);
        due("tour(0, 0, 0, -1)", x.tour(0, 0, 0, -1), OUTSIDE);
        due("tour(0, 0, 1000000, 0)", x.tour(0, 0, 1000000, 0), NONE);
        due("tour(1000, 0, 0, 1)", x.tour(1000, 0, 0, 1), NONE);
        // The tour's order is that of the numbers' sizes, from 0 on plain rods of 10.
        int[][] tours = {{1, 2, 3}, {1, 3, 2}, {2, 1, 3}, {3, 1, 2}, {2, 3, 1}, {3, 2, 1}};
        for (int order = 0; order < 6; order++) {
            int[] t = tours[order];
            String told = "tour(" + t[0] + ", " + t[1] + ", " + t[2] + ", ";
            due(told + "0)", x.tour(t[0], t[1], t[2], 0), 3);
            due(told + "1)", x.tour(t[0], t[1], t[2], 1), order);
        }
        due("the first of several", x.tour(4, 4, 4, 1), 0);
        // From 0: 4, 4, 2 by 4 4 2 (6), 4 2 4 (8), 2 4 4 (4): order 4.
        due("tour(4, 4, 2, 0)", x.tour(4, 4, 2, 0), 4);
        due("tour(4, 4, 2, 1)", x.tour(4, 4, 2, 1), 4);
        x.set(9);
        due("tour(1, 2, 3, 0) from 9", x.tour(1, 2, 3, 0), 8);
        due("tour(1, 2, 3, 1) from 9", x.tour(1, 2, 3, 1), 5);
        due("nothing changes", x.number(), 9);
        due("nothing changes", x.count(3), 9);
    }

    private static void seens() {
        promise = 24;
        RodBeads x = framed("five 10 5 2;plain 10 9;heir 10 4 1");
        promise = 24;
        due("seen(3, 0, 0)", x.seen(3, 0, 0), UNKNOWN);
        due("seen(-1, 99, 0)", x.seen(-1, 99, 0), UNKNOWN);
        due("seen(0, 41, 0)", x.seen(0, 41, 0), OUTSIDE);
        due("seen(0, -1, 0)", x.seen(0, -1, 0), OUTSIDE);
        due("seen(0, 0, 100)", x.seen(0, 0, 100), OUTSIDE);
        due("seen(0, 0, -1)", x.seen(0, 0, -1), OUTSIDE);
        promise = 26;
        due("kinds(0), nothing SEEN", x.kinds(0), 15);
        due("kinds(3)", x.kinds(3), UNKNOWN);
        due("kinds(-1)", x.kinds(-1), UNKNOWN);
        promise = 24;
        due("seen(0, 3, 3)", x.seen(0, 3, 3), 1);
        promise = 26;
        due("kinds(0), 3 in 3: not SLOW", x.kinds(0), 11);
        // 5: PLAIN 5, FIVE 1, SLOW 2, HEIR 5.
        x.seen(0, 5, 5);
        due("kinds(0), 5 in 5", x.kinds(0), 9);
        // 6: PLAIN none, HEIR (a HIGH one is 6) 3.
        x.seen(0, 6, 3);
        due("kinds(0), 6 in 3", x.kinds(0), 8);
        due("kinds(1), another ROD", x.kinds(1), 15);
        x.seen(1, 9, 9);
        due("kinds(1), no HIGH ones: all but SLOW", x.kinds(1), 11);
        promise = 24;
        due("seen(2, 40, 99)", x.seen(2, 40, 99), 5);
        due("seen(2, 0, 0)", x.seen(2, 0, 0), 6);
        due("seen(2, 0, 0)", x.seen(2, 0, 0), FULL);
        due("seen(2, 0, 100), full", x.seen(2, 0, 100), OUTSIDE);
        promise = 26;
        due("kinds(2), 40 in 99", x.kinds(2), 0);
        promise = 25;
        due("forget()", x.forget(), 6);
        due("forget() again", x.forget(), 0);
        due("kinds(2)", x.kinds(2), 15);
        promise = 26;
        x.push(2, 0, 4);
        x.stick(2, 0);
        x.seen(2, 5, 2);
        due("kinds(2), 5 in 2: SLOW, from nothing PUSHED, nothing STUCK", x.kinds(2), 4);
        x.forget();
        x.seen(2, 5, 1);
        due("kinds(2), 5 in 1: FIVE", x.kinds(2), 2);
        x.forget();
        x.seen(2, 5, 3);
        due("kinds(2), 5 in 3: HEIR", x.kinds(2), 8);
        x.forget();
        x.seen(2, 0, 0);
        due("kinds(2), 0 in 0", x.kinds(2), 15);
        x.seen(2, 0, 1);
        due("kinds(2), 0 in 1", x.kinds(2), 0);
    }

    private static void slips() {
        promise = 27;
        RodBeads x = framed("five 10 4 1;heir 16 9 3;plain 10 9");
        promise = 27;
        due("slips(3, 0, 0, 0)", x.slips(3, 0, 0, 0), UNKNOWN);
        due("slips(-1, 0, 0, 0)", x.slips(-1, 0, 0, 0), UNKNOWN);
        due("slips(0, 11, 0, 2)", x.slips(0, 11, 0, 2), UNKNOWN);
        due("slips(0, 0, 0, -1)", x.slips(0, 0, 0, -1), UNKNOWN);
        due("slips(0, 11, 0, 0)", x.slips(0, 11, 0, 0), OUTSIDE);
        due("slips(0, -1, 0, 0)", x.slips(0, -1, 0, 0), OUTSIDE);
        due("slips(0, 0, 61, 0)", x.slips(0, 0, 61, 0), OUTSIDE);
        due("slips(0, 0, -1, 1)", x.slips(0, 0, -1, 1), OUTSIDE);
        dueOdds(x, 0, 5, 0, 1, 1);
        dueOdds(x, 0, 5, 1, 0, 1);
        x.push(0, 0, 2);
        x.push(0, 1, 1);
        dueOdds(x, 0, 0, 7, 1, 1);
        dueOdds(x, 0, 0, 8, 0, 1);
        dueOdds(x, 0, 10, 0, 1, 1);
        dueOdds(x, 0, 10, 1, 0, 1);
        dueOdds(x, 0, 5, 7, 1, 8);
        dueOdds(x, 0, 5, 6, 3, 8);
        dueOdds(x, 0, 5, 5, 1, 2);
        dueOdds(x, 0, 5, 3, 1, 2);
        dueOdds(x, 0, 5, 2, 5, 8);
        dueOdds(x, 0, 3, 7, 343, 1000);
        dueOdds(x, 0, 3, 5, 7, 10);
        dueOdds(x, 0, 2, 1, 124, 125);
        dueOdds(x, 0, 5, 60, 0, 1);
        x.stick(0, 1);
        dueOdds(x, 0, 5, 5, 1, 2);
        x.push(1, 0, 9);
        x.push(1, 1, 3);
        dueOdds(x, 1, 3, 39, 13841287201L, 1000000000000L);
        dueOdds(x, 1, 3, 1, 1000000000000L - 531441, 1000000000000L);
        dueOdds(x, 1, 9, 10, 271, 1000);
        dueOdds(x, 1, 9, 30, 1, 1000);
    }

    private static void dueOdds(RodBeads x, int rod, int q, int v, long above, long below) {
        String told = "slips(" + rod + ", " + q + ", " + v + ", ";
        due(told + "0)", x.slips(rod, q, v, 0), above);
        due(told + "1)", x.slips(rod, q, v, 1), below);
    }

    private static void counts() {
        promise = 28;
        RodBeads x = framed("five 5 4 1;plain 2 9;heir 16 9 3;stuck 2 1");
        promise = 28;
        x.push(0, 0, 4);
        x.push(0, 1, 1);
        x.push(1, 0, 1);
        x.push(2, 0, 9);
        x.seen(0, 0, 0);
        x.write('a');
        x.write('b');
        x.stick(0, 0);
        int[] told = {3, 15, 1 + 32, 15, 1, 5, 2, 1};
        for (int what = 0; what < 8; what++) {
            due("count(" + what + ")", x.count(what), told[what]);
        }
        x.push(1, 0, 2);
        due("count(7)", x.count(7), 3);
        due("count(-1)", x.count(-1), OUTSIDE);
        due("count(8)", x.count(8), OUTSIDE);
    }

    public static void main(String[] args) {
        newObject();
        letters();
        frameFaults();
        frameFaultsOfRods();
        sumsFaults();
        frames();
        sums();
        rods();
        kindsOverOneAnother();
        pushes();
        sets();
        setTies();
        carries();
        undos();
        keeps();
        foretold();
        spans();
        nearests();
        loosens();
        tours();
        seens();
        slips();
        counts();
        System.out.println(checks + " answers, " + wrong + " of them not as due");
        if (wrong != 0) {
            System.exit(1);
        }
    }
}
