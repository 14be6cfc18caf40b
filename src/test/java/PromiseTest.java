import java.util.Arrays;

/** For each promise of the document, answers worked out by hand: ordinary inputs, edges, wrong inputs. */
public final class PromiseTest {
    private static final int NONE = -1, BAD = -2, NO = -3, FULL = -4, BARRIER = 100;
    private static final int SOURCE = 0, ADDER = 1, SIEVE = 2, TOTALS = 3, JOIN = 4, SINK = 5;
    // What a SOURCE of K 0 sends, from ITEM 0 on.
    private static final int[] K0 = {
        0, 4, 10, 18, 28, 40, 54, 70, 88, 8, 30, 54, 80, 8, 38, 70, 4, 40, 78, 18,
        60, 4, 50, 98, 48, 0, 54, 10, 68, 28
    };

    // A JOIN of a slow and a fast SOURCE: 3 ITEMS wait in its IN 1.
    private static final String FAST_IN_1 = "n0 2-0;n0 1-50;n4 0 1 0;n5 2-0;a0;l30;s6;";

    private static int wrong = 0;
    private static String promise = "";

    public static void main(String[] args) {
        newObject();
        begins();
        beginsLeavesNothing();
        node();
        nodeOrderOfRefusals();
        lengthens();
        aligns();
        stepsOfSources();
        stepsOfOperators();
        stepsOfTotals();
        stepsOfJoins();
        stepsWithoutRoom();
        stepsOfBarriers();
        stepsAligned();
        stepsNotAligned();
        stepsPutOutAndLose();
        marks();
        marksAheadOfNodes();
        fails();
        failsWithRecord();
        failsWithLongRecord();
        failsGiveEachItemOnce();
        of();
        letter();
        sum();
        row();
        count();
        countOfStoredNumbers();
        type();
        clear();
        does();
        doesFaults();
        doesPassesOver();
        back();
        backToOtherNodes();
        told();
        digest();
        System.out.println(wrong == 0 ? "all promises hold" : wrong + " answers are not as due");
        if (wrong != 0) {
            System.exit(1);
        }
    }

    private static void due(String what, long got, long want) {
        if (got != want) {
            wrong++;
            System.out.println(promise + ": " + what + " is " + got + ", due is " + want);
        }
    }

    private static void dueRow(String what, int[] got, int... want) {
        if (!Arrays.equals(got, want)) {
            wrong++;
            System.out.println(promise + ": " + what + " is " + Arrays.toString(got) + ", due is "
                + Arrays.toString(want));
        }
    }

    private static int[] letters(BarrierStreams x, int n, int in) {
        int[] all = new int[200];
        int size = 0;
        for (int letter = x.letter(n, in, 0); letter >= 0 && size < all.length; letter = x.letter(n, in, size)) {
            all[size++] = letter;
        }
        return Arrays.copyOf(all, size);
    }

    private static int[] items(BarrierStreams x, int n, int which) {
        int[] all = new int[200];
        int size = 0;
        for (int item = x.row(n, which, 0); item >= 0 && size < all.length; item = x.row(n, which, size)) {
            all[size++] = item;
        }
        return Arrays.copyOf(all, size);
    }

    private static int doText(BarrierStreams x, String text) {
        x.clear();
        for (int i = 0; i < text.length(); i++) {
            x.type(text.charAt(i));
        }
        return x.does();
    }

    private static BarrierStreams net(String text) {
        BarrierStreams x = new BarrierStreams();
        int answer = doText(x, text);
        if (answer < 1) {
            wrong++;
            System.out.println(promise + ": the net " + text + " was answered by " + answer);
        }
        return x;
    }

    private static void newObject() {
        promise = "promise 1";
        BarrierStreams x = new BarrierStreams();
        int[] counts = {0, 0, 20, 0, 0, 1, 0, 0, 0, 0};
        for (int what = 0; what < counts.length; what++) {
            due("count " + what, x.count(what), counts[what]);
        }
        for (int what = 0; what < 5; what++) {
            due("told " + what, x.told(what), 0);
        }
        due("of a NODE", x.of(0, 0), BAD);
        BarrierStreams other = new BarrierStreams();
        other.node(SOURCE, 1, NONE, 0);
        due("nodes of an object beside another", x.count(0), 0);
    }

    private static void begins() {
        promise = "promise 2";
        BarrierStreams x = net("n0 1-0;n4 0 0 0;n5 1-0;");
        due("lengthens", x.lengthens(7), 20);
        due("aligns", x.aligns(0), 1);
        x.steps(3);
        x.marks();
        x.steps(30);
        x.fails();
        x.marks();
        x.steps(99);
        due("nodes there were", x.begins(), 3);
        int[] counts = {0, 0, 20, 0, 0, 1, 0, 0, 0, 0};
        for (int what = 0; what < counts.length; what++) {
            due("count " + what, x.count(what), counts[what]);
        }
        due("refused", x.told(0), 1);
        due("bytes", x.told(3), 23);
        due("STATES", x.told(4), 5);
        due("begins anew", x.begins(), 0);
        due("node after it", x.node(SOURCE, 1, NONE, 3), 0);
        x.node(JOIN, 0, 0, 0);
        x.node(SINK, 1, NONE, 0);
        due("POSITION", x.of(0, 4), 0);
        due("MARK", x.of(0, 5), 0);
        due("letters", x.count(9), 0);
        due("OUTPUT", x.row(2, 2, 0), NONE);
        x.fails();
        due("numbers stored", x.count(6), 0);
        due("POSITION by a failure", x.of(0, 4), 0);
        due("letters by a failure", x.count(9), 0);
        BarrierStreams y = net("n0 1-0;s9;");
        y.begins();
        due("back", y.back(), 1);
        due("T as it was", y.count(1), 9);
    }

    // What NODES of the same numbers had before must not shine through.
    private static void beginsLeavesNothing() {
        promise = "promise 2";
        BarrierStreams x = net(FAST_IN_1);
        x.marks();
        x.steps(8);
        due("WHOLE, with a RECORD", x.count(6), 5);
        x.begins();
        due("a net like it", doText(x, FAST_IN_1), 7);
        x.fails();
        due("LETTERS", x.count(9), 0);
        due("POSITION", x.of(1, 4), 0);
        x = net("n0 1-0;n3 0-0;n4 0 1 0;n4 2 2 0;n5 3-0;s9;m;s30;");
        due("WHOLE", x.count(3), 1);
        x.begins();
        due("a net like it", doText(x, "n0 1-0;n3 0-0;n4 0 1 0;n4 2 2 0;n5 3-0;"), 5);
        due("a third JOIN", x.node(JOIN, 0, 0, 0), FULL);
        x.steps(3);
        x.fails();
        due("sum", x.sum(1, 0), 0);
        due("numbers", x.count(6), 0);
        due("POSITION", x.of(0, 4), 0);
        x.marks();
        x.steps(9);
        due("WHOLE", x.count(3), 1);
        due("one POSITION and no sum", x.count(6), 1);
    }

    private static void node() {
        promise = "promise 3";
        BarrierStreams x = new BarrierStreams();
        int[][] bad = {
            {-1, 1, NONE, 0}, {6, 1, NONE, 0}, {SOURCE, 0, NONE, 0}, {SOURCE, 10, NONE, 0}, {SOURCE, 1, 0, 0},
            {SOURCE, 1, -2, 0}, {SOURCE, 1, NONE, -1}, {SOURCE, 1, NONE, 100}, {ADDER, 0, NONE, 0},
            {JOIN, NONE, NONE, 0}, {Integer.MAX_VALUE, 1, NONE, 0}, {SOURCE, Integer.MIN_VALUE, NONE, 0}
        };
        for (int[] p : bad) {
            due("node " + Arrays.toString(p), x.node(p[0], p[1], p[2], p[3]), BAD);
        }
        due("nodes", x.count(0), 0);
        due("STATES", x.told(4), 0);
        due("refused", x.told(0), bad.length);
        due("a SOURCE", x.node(SOURCE, 9, NONE, 99), 0);
        due("a SOURCE of period 1", x.node(SOURCE, 1, NONE, 0), 1);
        due("a SINK", x.node(SINK, 1, NONE, 0), 2);
        int[][] badToo = {
            {ADDER, 2, NONE, 0}, {ADDER, 3, NONE, 0}, {ADDER, NONE, NONE, 0}, {ADDER, 0, 0, 0}, {ADDER, 0, NONE, 100},
            {ADDER, 0, NONE, -1}, {SIEVE, 0, NONE, 0}, {SIEVE, 0, NONE, 100}, {SIEVE, 0, 1, 1}, {SIEVE, 2, NONE, 1},
            {TOTALS, 0, NONE, 1}, {TOTALS, 0, 0, 0}, {TOTALS, 2, NONE, 0}, {TOTALS, 0, NONE, NONE},
            {SINK, 0, NONE, 1}, {SINK, 0, 0, 0}, {SINK, 2, NONE, 0}, {SINK, 3, NONE, 0},
            {JOIN, 0, NONE, 0}, {JOIN, 0, 2, 0}, {JOIN, 2, 0, 0}, {JOIN, 0, 3, 0}, {JOIN, 0, 1, 1}, {JOIN, 3, 0, 0}
        };
        for (int[] p : badToo) {
            due("node " + Arrays.toString(p), x.node(p[0], p[1], p[2], p[3]), BAD);
        }
        due("an ADDER", x.node(ADDER, 0, NONE, 0), 3);
        due("a SIEVE", x.node(SIEVE, 3, NONE, 99), 4);
        due("TOTALS", x.node(TOTALS, 4, NONE, 0), 5);
        due("a JOIN", x.node(JOIN, 5, 1, 0), 6);
        due("a JOIN of one NODE", x.node(JOIN, 6, 6, 0), 7);
        due("STATES", x.told(4), 5);
    }

    private static void nodeOrderOfRefusals() {
        promise = "promise 3";
        BarrierStreams x = net("n0 1-0;n4 0 0 0;n4 1 1 0;n1 0-0;");
        due("a third JOIN", x.node(JOIN, 0, 0, 0), FULL);
        due("a third JOIN that is bad", x.node(JOIN, 0, 0, 1), BAD);
        for (int n = 4; n < 8; n++) {
            due("node " + n, x.node(SOURCE, 1, NONE, n), n);
        }
        due("a ninth NODE", x.node(SINK, 7, NONE, 0), FULL);
        due("a ninth NODE that is bad", x.node(SINK, 8, NONE, 0), BAD);
        x.steps(1);
        due("NO ahead of FULL", x.node(SINK, 7, NONE, 0), NO);
        due("BAD ahead of NO", x.node(SINK, 8, NONE, 0), BAD);
        x.fails();
        due("T stays by a failure", x.node(SINK, 7, NONE, 0), NO);
        due("BAD", x.told(0), 3);
        due("NO", x.told(1), 2);
        due("FULL", x.told(2), 2);
    }

    private static void lengthens() {
        promise = "promise 4";
        BarrierStreams x = net("n0 1-0;n5 0-0;");
        due("at first", x.lengthens(0), 20);
        due("30", x.lengthens(30), 0);
        due("31", x.lengthens(31), BAD);
        due("-1", x.lengthens(-1), BAD);
        due("LENGTH", x.count(2), 30);
        due("STATES", x.told(4), 3);
        x.lengthens(3);
        x.steps(9);
        dueRow("OPEN", items(x, 1, 0), 0, 4, 10);
        x.lengthens(1);
        x.steps(2);
        due("POSITION stays", x.of(0, 4), 3);
        due("what it was", x.lengthens(5), 1);
        x.steps(9);
        dueRow("OPEN", items(x, 1, 0), 0, 4, 10, 18, 28);
        due("the same", x.lengthens(5), 5);
        x.fails();
        due("LENGTH stays by a failure", x.count(2), 5);
    }

    private static void aligns() {
        promise = "promise 5";
        BarrierStreams x = net("n0 1-0;n5 0-0;");
        due("at first", x.aligns(1), 1);
        due("0", x.aligns(0), 1);
        due("0 again", x.aligns(0), 0);
        due("2", x.aligns(2), BAD);
        due("-1", x.aligns(-1), BAD);
        due("it is", x.count(5), 0);
        due("STATES", x.told(4), 4);
        x.marks();
        due("under way", x.aligns(1), NO);
        due("BAD ahead of NO", x.aligns(2), BAD);
        x.fails();
        due("stays by a failure", x.aligns(1), 0);
        x.marks();
        x.steps(2);
        due("WHOLE", x.aligns(0), 1);
    }

    private static void stepsOfSources() {
        promise = "promise 6";
        BarrierStreams x = new BarrierStreams();
        due("0", x.steps(0), BAD);
        due("61", x.steps(61), BAD);
        due("-1", x.steps(-1), BAD);
        due("without NODES", x.steps(60), 60);
        due("one", x.steps(1), 61);
        x = net("n0 1-0;n0 3-14;n5 0-0;n5 1-0;n0 9-0;l30;");
        x.steps(1);
        due("T 0 is of each PERIOD", x.of(1, 4) + x.of(4, 4), 2);
        x.steps(2);
        due("POSITION of PERIOD 3", x.of(1, 4), 1);
        x.steps(1);
        due("POSITION of PERIOD 3", x.of(1, 4), 2);
        x.steps(56);
        due("T", x.steps(40), 100);
        dueRow("all ITEMS of K 0", items(x, 2, 0), K0);
        due("ITEM 0 of K 14", x.row(3, 0, 0), 98);
        due("ITEM 1 of K 14", x.row(3, 0, 1), 2);
        due("ITEM 29 of K 14", x.row(3, 0, 29), 26);
        due("ITEM 30", x.row(3, 0, 30), NONE);
        due("a SOURCE without OUTS", x.of(4, 4), 12);
        due("LETTERS", x.count(9), 0);
    }

    private static void stepsOfOperators() {
        promise = "promise 6";
        BarrierStreams x = net("n0 1-0;n1 0-95;n2 0-4;n2 0-1;n2 0-99;n5 1-0;n5 2-0;n5 3-0;l10;s30;");
        dueRow("ADDER", items(x, 5, 0), 95, 99, 5, 13, 23, 35, 49, 65, 83, 3);
        dueRow("SIEVE of 4", items(x, 6, 0), 10, 18, 54, 70);
        dueRow("SIEVE of 1", items(x, 7, 0));
        x = net("n0 1-0;n2 0-99;n1 1-0;n5 2-0;l30;s60;");
        due("SIEVE of 99 keeps back 0 alone", items(x, 3, 0).length, 28);
    }

    private static void stepsOfTotals() {
        promise = "promise 6";
        BarrierStreams x = net("n0 1-0;n3 0-0;n5 1-0;l10;s30;");
        // the remainders by 4: 0 0 2 2 0 0 2 2 0 0
        dueRow("TOTALS", items(x, 2, 0), 0, 4, 10, 28, 32, 72, 82, 52, 60, 68);
        due("sum 0", x.sum(1, 0), 168);
        due("sum 1", x.sum(1, 1), 0);
        due("sum 2", x.sum(1, 2), 152);
        due("sum 3", x.sum(1, 3), 0);
    }

    private static void stepsOfJoins() {
        promise = "promise 6";
        BarrierStreams x = net("n0 1-0;n0 2-50;n4 0 1 0;n5 2-0;");
        due("TURN", x.of(2, 6), 0);
        x.steps(1);
        due("TURN after IN 0", x.of(2, 6), 1);
        dueRow("IN 1 waits", letters(x, 2, 1), 50);
        x.steps(1);
        due("TURN after IN 1", x.of(2, 6), 0);
        dueRow("IN 0 waits", letters(x, 2, 0), 4);
        x.steps(1);
        dueRow("IN 0", letters(x, 2, 0), 10);
        dueRow("IN 1", letters(x, 2, 1), 54);
        dueRow("OPEN", items(x, 3, 0), 0, 50, 4);
        x = net("n0 9-0;n0 1-50;n4 0 1 0;n5 2-0;s6;");
        due("TURN, when the other IN had to do", x.of(2, 6), 0);
        dueRow("OPEN", items(x, 3, 0), 0, 50, 54, 60, 68, 78);
        dueRow("IN 1", letters(x, 2, 1), 90);
    }

    private static void stepsWithoutRoom() {
        promise = "promise 6";
        BarrierStreams x = net("n0 1-0;n4 0 0 0;n5 1-0;l30;s11;");
        due("POSITION", x.of(0, 4), 11);
        due("IN 0", letters(x, 1, 0).length, 5);
        dueRow("IN 1 is full", letters(x, 1, 1), 40, 54, 70, 88, 8, 30);
        x.steps(1);
        due("no ROOM", x.of(0, 4), 11);
        x.steps(1);
        due("ROOM again", x.of(0, 4), 12);
        dueRow("IN 0", letters(x, 1, 0), 70, 88, 8, 30, 54);
        dueRow("IN 1 is full", letters(x, 1, 1), 54, 70, 88, 8, 30, 54);
        x.steps(1);
        due("no ROOM", x.of(0, 4), 12);
        x = net("n0 1-0;n1 0-1;n4 1 1 0;n4 2 2 0;n5 3-0;l30;s60;");
        due("OPEN", items(x, 4, 0).length, 60);
        int waiting = 4 * letters(x, 1, 0).length + 2 * (letters(x, 2, 0).length + letters(x, 2, 1).length)
            + letters(x, 3, 0).length + letters(x, 3, 1).length;
        due("nothing is lost on its way", 60 + waiting, 4 * x.of(0, 4));
        due("the ADDER waits, too", letters(x, 1, 0).length, 6);
    }

    private static void stepsOfBarriers() {
        promise = "promise 6";
        BarrierStreams x = net("n0 2-0;n1 0-5;n3 1-0;n5 2-0;s3;");
        x.marks();
        x.steps(1);
        due("MARK waits for the PERIOD", x.of(0, 5), 1);
        x.steps(1);
        due("MARK", x.of(0, 5), 0);
        due("WHOLE in one STEP", x.count(3), 1);
        due("POSITION", x.of(0, 4), 2);
        dueRow("OUTPUT", items(x, 3, 2), 5, 14);
        dueRow("OPEN", items(x, 3, 0));
        x = net("n0 1-0;n4 0 0 0;n5 1-0;s11;m;s1;");
        due("MARK waits for ROOM", x.of(0, 5), 1);
        x.steps(1);
        due("MARK", x.of(0, 5), 0);
        due("THE BARRIER in IN 0", x.letter(1, 0, 4), BARRIER);
        due("THE BARRIER in IN 1", x.letter(1, 1, 5), BARRIER);
        due("POSITION", x.of(0, 4), 11);
        due("its PART", x.of(0, 9), 1);
        due("the JOIN's", x.of(1, 9), 0);
        x = net("n0 1-0;n0 9-0;n5 0-0;n5 1-0;s1;m;s1;");
        due("the PART of a SINK", x.of(2, 9), 1);
        due("that of the other one", x.of(3, 9), 0);
        dueRow("PENDING", items(x, 2, 1), 0);
        dueRow("OPEN of the other one", items(x, 3, 0), 0);
        x.steps(7);
        dueRow("OPEN is behind THE BARRIER", items(x, 2, 0), 4, 10, 18, 28, 40, 54, 70);
        x.steps(1);
        dueRow("OUTPUT", items(x, 2, 2), 0);
        dueRow("PENDING", items(x, 2, 1));
        due("OPEN stays", items(x, 2, 0).length, 8);
        due("under way", x.count(4), 0);
    }

    private static void stepsAligned() {
        promise = "promise 6";
        BarrierStreams x = net("n0 1-0;n0 4-50;n4 0 1 0;n5 2-0;l30;s1;m;");
        x.steps(1);
        due("IN 1 is taken first", x.of(2, 7), NONE);
        dueRow("IN 0", letters(x, 2, 0), BARRIER);
        x.steps(1);
        due("BLOCKED", x.of(2, 7), 0);
        due("TURN", x.of(2, 6), 1);
        dueRow("IN 0", letters(x, 2, 0), 4);
        x.steps(1);
        dueRow("IN 0 waits", letters(x, 2, 0), 4, 10);
        due("TURN of a JOIN that took none", x.of(2, 6), 1);
        x.steps(1);
        due("BLOCKED no more", x.of(2, 7), NONE);
        due("WHOLE", x.count(3), 1);
        dueRow("OUTPUT", items(x, 3, 2), 0, 50);
        dueRow("IN 0", letters(x, 2, 0), 4, 10, 18);
        due("TURN", x.of(2, 6), 0);
        due("numbers", x.count(6), 2);
        x.steps(1);
        dueRow("OPEN", items(x, 3, 0), 4);
    }

    private static void stepsNotAligned() {
        promise = "promise 6";
        BarrierStreams x = net("n0 1-0;n0 4-50;n4 0 1 0;n5 2-0;a0;l30;s1;m;s2;");
        due("RECORDS", x.of(2, 8), 1);
        due("BLOCKED", x.of(2, 7), NONE);
        due("its PART", x.of(2, 9), 0);
        due("the SINK's PART", x.of(3, 9), 1);
        dueRow("PENDING", items(x, 3, 1), 0, 50);
        x.steps(1);
        dueRow("ITEMS pass", items(x, 3, 0), 4);
        x.steps(1);
        due("WHOLE", x.count(3), 1);
        due("an empty RECORD", x.count(6), 2);
        due("RECORDS no more", x.of(2, 8), NONE);
        x = net(FAST_IN_1);
        dueRow("IN 0", letters(x, 2, 0));
        dueRow("IN 1", letters(x, 2, 1), 68, 78, 90);
        x.marks();
        x.steps(1);
        due("RECORDS", x.of(2, 8), 1);
        dueRow("PENDING", items(x, 3, 1), 0, 50, 4, 54, 10, 60);
        dueRow("IN 1", letters(x, 2, 1), 68, 78, 90, BARRIER);
        x.steps(6);
        dueRow("OPEN", items(x, 3, 0), 68, 18, 78, 28, 90, 40);
        due("under way", x.count(4), 1);
        x.steps(1);
        due("WHOLE", x.count(3), 1);
        due("2 POSITIONS and 3 ITEMS", x.count(6), 5);
        due("TURN", x.of(2, 6), 0);
        dueRow("IN 1", letters(x, 2, 1), 4, 20, 38, 58, 80);
        dueRow("OUTPUT", items(x, 3, 2), 0, 50, 4, 54, 10, 60);
    }

    private static void stepsPutOutAndLose() {
        promise = "promise 6";
        BarrierStreams x = net("n0 1-0;n4 0 0 0;n4 1 1 0;n5 2-0;l30;s60;s60;s60;");
        due("OPEN", items(x, 3, 0).length, 120);
        due("LOST", x.count(8), 0);
        x.marks();
        x.steps(9);
        due("OUTPUT", items(x, 3, 2).length, 100);
        due("LOST", x.count(8), 20);
        due("PENDING", items(x, 3, 1).length, 0);
        due("ITEM 100", x.row(3, 2, 100), NONE);
        x.marks();
        x.steps(9);
        due("LOST", x.count(8), 20);
        x.fails();
        due("LOST stay by a failure", x.count(8), 20);
        due("OUTPUT stays by a failure", items(x, 3, 2).length, 100);
    }

    private static void marks() {
        promise = "promise 7";
        BarrierStreams x = net("n0 1-0;n5 0-0;n0 5-0;s1;");
        due("the first one", x.marks(), 1);
        due("under way", x.count(4), 1);
        due("MARK", x.of(0, 5), 1);
        due("MARK of a SINK", x.of(1, 5), 0);
        due("another one", x.marks(), NO);
        due("refused", x.told(1), 1);
        x.steps(1);
        due("PART", x.of(0, 9), 1);
        x.steps(4);
        due("WHOLE", x.count(3), 1);
        due("PART of none", x.of(0, 9), 0);
        due("the second one", x.marks(), 2);
        due("no PART is WHOLE", x.of(0, 9) + x.of(1, 9) + x.of(2, 9), 0);
        x.fails();
        due("the second one again", x.marks(), 2);
        x = new BarrierStreams();
        due("without NODES", x.marks(), 1);
        x.steps(1);
        due("WHOLE without NODES", x.count(3), 1);
    }

    // A SNAPSHOT that began ahead of a SOURCE does not make it MARK; so only a failure ends it.
    private static void marksAheadOfNodes() {
        promise = "promise 7";
        BarrierStreams x = net("n0 1-0;m;n0 1-7;n4 0 1 0;n5 2-0;");
        due("MARK of the old SOURCE", x.of(0, 5), 1);
        due("MARK of the new SOURCE", x.of(1, 5), 0);
        x.steps(60);
        due("BLOCKED", x.of(2, 7), 0);
        due("under way", x.count(4), 1);
        x.fails();
        due("under way", x.count(4), 0);
    }

    private static void fails() {
        promise = "promise 8";
        BarrierStreams x = net("n0 1-0;n0 9-0;n3 0-0;n4 2 1 0;n5 3-0;s7;");
        due("without a SNAPSHOT", x.fails(), 0);
        due("POSITION", x.of(0, 4), 0);
        due("sum", x.sum(2, 0), 0);
        due("LETTERS", x.count(9), 0);
        due("OPEN", x.row(4, 0, 0), NONE);
        due("TURN", x.of(3, 6), 0);
        due("T", x.count(1), 7);
        due("failures", x.count(7), 1);
        x.steps(4);
        x.marks();
        x.steps(3);
        due("BLOCKED", x.of(3, 7), 0);
        due("MARK", x.of(1, 5), 1);
        due("under way", x.fails(), 0);
        due("BLOCKED", x.of(3, 7), NONE);
        due("MARK", x.of(1, 5), 0);
        due("PART", x.of(0, 9), 0);
        due("under way", x.count(4), 0);
        due("failures", x.count(7), 2);
        x.steps(3);
        x.marks();
        x.steps(12);
        due("WHOLE", x.count(3), 1);
        int position = x.of(0, 4);
        due("POSITION went on", position > 4 ? 1 : 0, 1);
        due("WHOLE ones", x.fails(), 1);
        due("POSITION as marked", x.of(0, 4), 3);
        due("sum as marked", x.sum(2, 0), 4);
        due("other sum as marked", x.sum(2, 2), 10);
        dueRow("OUTPUT stays", items(x, 4, 2), 0, 4, 10);
        due("LETTERS", x.count(9), 0);
        due("STATES", x.told(4), 5);
        due("again", x.fails(), 1);
        due("POSITION as marked", x.of(0, 4), 3);
    }

    private static void failsWithRecord() {
        promise = "promise 8";
        BarrierStreams x = net(FAST_IN_1);
        x.marks();
        x.steps(8);
        due("WHOLE ones", x.fails(), 1);
        dueRow("IN 0", letters(x, 2, 0));
        dueRow("IN 1 holds the RECORD", letters(x, 2, 1), 68, 78, 90);
        due("POSITION", x.of(0, 4), 3);
        due("POSITION", x.of(1, 4), 6);
        due("TURN", x.of(2, 6), 0);
        due("LETTERS", x.count(9), 3);
        x.steps(1);
        dueRow("IN 1", letters(x, 2, 1), 68, 78, 90, 4);
        dueRow("OPEN", items(x, 3, 0), 18);
        x.marks();
        x.steps(2);
        due("RECORDS", x.of(2, 8), 1);
        x.fails();
        due("RECORDS no more", x.of(2, 8), NONE);
        dueRow("IN 1 by another failure", letters(x, 2, 1), 68, 78, 90);
        x.aligns(1);
        x.steps(2);
        x.marks();
        x.steps(30);
        due("WHOLE", x.count(3), 2);
        x.fails();
        due("no RECORD is a PART of it", x.count(9), 0);
        due("numbers", x.count(6), 2);
    }

    private static void failsWithLongRecord() {
        promise = "promise 8";
        BarrierStreams x = net("n0 2-0;n0 1-50;n1 1-1;n4 0 2 0;n5 3-0;a0;l30;s26;m;s30;");
        due("WHOLE", x.count(3), 1);
        x.fails();
        int[] record = letters(x, 3, 1);
        due("more than 6", record.length > 6 ? 1 : 0, 1);
        int first = x.of(1, 4) - record.length;
        for (int j = 0; j < record.length; j++) {
            due("ITEM " + j + " of the RECORD", record[j], (51 + K0[first + j]) % 100);
        }
        due("OUTPUT has all others", items(x, 4, 2).length, x.of(0, 4) + first);
        due("numbers", x.count(6), 2 + record.length);
        int sent = x.of(1, 4);
        x.steps(2);
        due("the ADDER has no ROOM", letters(x, 2, 0).length, x.of(1, 4) - sent);
        due("nothing came behind the RECORD", x.letter(3, 1, letters(x, 3, 1).length - 1), record[record.length - 1]);
    }

    // Nets without TOTALS: whatever fails, OUTPUT has each ITEM as often as without failures.
    private static void failsGiveEachItemOnce() {
        promise = "promise 8";
        String[] nets = {
            "n0 1-3;n1 0-5;n2 1-3;n5 2-0;", "n0 1-3;n0 3-4;n4 0 1 0;n5 2-0;", "n0 1-3;n1 0-1;n1 1-1;n4 0 2 0;n5 3-0;",
            "n0 1-3;n0 1-4;n2 0-2;n4 2 1 0;n1 1-4;n4 3 4 0;n5 5-0;", "n0 2-3;n1 0-1;n4 1 0 0;n1 2-9;n4 3 2 0;n5 4-0;"
        };
        for (String net : nets) {
            for (int variant = 0; variant < 40; variant++) {
                int[] want = outputOf(net, variant % 2, 0);
                int[] got = outputOf(net, variant % 2, 1 + variant);
                dueRow(net + " with failures, variant " + variant, got, want);
            }
        }
    }

    private static int[] outputOf(String net, int aligned, int variant) {
        BarrierStreams x = net(net);
        x.aligns(aligned);
        for (int i = 0; i < 12 && variant > 0; i++) {
            x.steps(1 + (variant * 7 + i * 5) % 11);
            x.marks();
            x.steps(1 + (variant * 3 + i * 4) % 17);
            if ((variant + i) % 3 != 0) {
                x.fails();
            }
        }
        x.steps(60);
        x.steps(60);
        x.steps(60);
        x.marks();
        x.steps(60);
        if (x.count(4) == 0) {
            x.marks();
        }
        x.steps(60);
        int sink = x.count(0) - 1;
        int[] output = items(x, sink, 2);
        Arrays.sort(output);
        return output;
    }

    private static void of() {
        promise = "promise 9";
        BarrierStreams x = net("n0 3-14;n1 0-77;n2 1-9;n3 2-0;n4 3 0 0;n5 4-0;");
        int[][] facts = {
            {SOURCE, 3, NONE, 14, 0, 0, NONE, NONE, NONE, 0}, {ADDER, 0, NONE, 77, NONE, 0, NONE, NONE, NONE, 0},
            {SIEVE, 1, NONE, 9, NONE, 0, NONE, NONE, NONE, 0}, {TOTALS, 2, NONE, 0, NONE, 0, NONE, NONE, NONE, 0},
            {JOIN, 3, 0, 0, NONE, 0, 0, NONE, NONE, 0}, {SINK, 4, NONE, 0, NONE, 0, NONE, NONE, NONE, 0}
        };
        for (int n = 0; n < facts.length; n++) {
            for (int what = 0; what < 10; what++) {
                due("of " + n + ", " + what, x.of(n, what), facts[n][what]);
            }
        }
        due("no such NODE", x.of(6, 0), BAD);
        due("NODE -1", x.of(-1, 0), BAD);
        due("what 10", x.of(0, 10), BAD);
        due("what -1", x.of(0, -1), BAD);
        due("refused", x.told(0), 4);
        x.marks();
        due("MARK", x.of(0, 5), 1);
        x.steps(1);
        due("PART", x.of(0, 9), 1);
        due("PART", x.of(1, 9), 1);
        due("BLOCKED", x.of(4, 7), 0);
        due("PART of the JOIN", x.of(4, 9), 0);
        x.fails();
        x.aligns(0);
        x.marks();
        x.steps(3);
        due("RECORDS", x.of(4, 8), 1);
        due("TURN", x.of(4, 6), 1);
    }

    private static void letter() {
        promise = "promise 10";
        BarrierStreams x = net("n0 1-0;n4 0 0 0;n5 1-0;s4;m;s1;");
        dueRow("IN 0", letters(x, 1, 0), 18, BARRIER);
        dueRow("IN 1", letters(x, 1, 1), 10, 18, BARRIER);
        due("not so many", x.letter(1, 0, 2), NONE);
        due("not so many", x.letter(1, 0, Integer.MAX_VALUE), NONE);
        dueRow("IN 0 of a SINK", letters(x, 2, 0));
        int refused = x.told(0);
        due("IN 1 of a SINK", x.letter(2, 1, 0), BAD);
        due("IN 0 of a SOURCE", x.letter(0, 0, 0), BAD);
        due("IN 1 of a SOURCE", x.letter(0, 1, 0), BAD);
        due("IN 2 of a JOIN", x.letter(1, 2, 0), BAD);
        due("IN -1", x.letter(1, -1, 0), BAD);
        due("i -1", x.letter(1, 0, -1), BAD);
        due("no such NODE", x.letter(3, 0, 0), BAD);
        due("NODE -1", x.letter(-1, 0, 0), BAD);
        due("refused", x.told(0) - refused, 8);
    }

    private static void sum() {
        promise = "promise 11";
        BarrierStreams x = net("n0 1-1;n3 0-0;n5 1-0;l4;s9;");
        // 7, 11, 17, 25
        due("sum 0", x.sum(1, 0), 0);
        due("sum 1", x.sum(1, 1), 42);
        due("sum 2", x.sum(1, 2), 0);
        due("sum 3", x.sum(1, 3), 18);
        due("sum 4", x.sum(1, 4), BAD);
        due("sum -1", x.sum(1, -1), BAD);
        due("of a SOURCE", x.sum(0, 0), BAD);
        due("of a SINK", x.sum(2, 0), BAD);
        due("of no NODE", x.sum(3, 0), BAD);
        due("of NODE -1", x.sum(-1, 0), BAD);
        due("refused", x.told(0), 6);
        x = net("n0 1-0;n3 0-0;l30;s60;");
        due("a sum beyond 99", x.sum(1, 0), 4 * (1 + 7 + 10 + 22 + 2 + 20 + 2 + 1 + 10 + 15 + 1 + 12 + 17 + 7));
    }

    private static void row() {
        promise = "promise 12";
        BarrierStreams x = net("n0 1-0;n0 7-0;n5 0-0;n5 1-0;s2;m;s8;m;s3;");
        dueRow("OPEN", items(x, 2, 0), 8, 30);
        dueRow("PENDING", items(x, 2, 1), 10, 18, 28, 40, 54, 70, 88);
        dueRow("OUTPUT", items(x, 2, 2), 0, 4);
        due("not so many", x.row(2, 2, 99), NONE);
        due("not so many", x.row(2, 0, Integer.MAX_VALUE), NONE);
        due("which 3", x.row(2, 3, 0), BAD);
        due("which -1", x.row(2, -1, 0), BAD);
        due("i -1", x.row(2, 0, -1), BAD);
        due("no SINK", x.row(0, 0, 0), BAD);
        due("no NODE", x.row(4, 0, 0), BAD);
        due("NODE -1", x.row(-1, 0, 0), BAD);
        due("refused", x.told(0), 6);
    }

    private static void count() {
        promise = "promise 13";
        BarrierStreams x = net("n0 1-0;n0 5-0;n4 0 1 0;n5 2-0;a0;l9;s4;m;s1;");
        int[] counts = {4, 5, 9, 0, 1, 0, 0, 0, 0};
        for (int what = 0; what < counts.length; what++) {
            due("count " + what, x.count(what), counts[what]);
        }
        due("LETTERS", x.count(9), letters(x, 2, 0).length + letters(x, 2, 1).length + letters(x, 3, 0).length);
        due("what 10", x.count(10), BAD);
        due("what -1", x.count(-1), BAD);
        due("refused", x.told(0), 2);
        x.steps(5);
        due("WHOLE", x.count(3), 1);
        due("under way", x.count(4), 0);
        x.fails();
        x.fails();
        due("failures", x.count(7), 2);
        due("T", x.count(1), 10);
    }

    private static void countOfStoredNumbers() {
        promise = "promise 13";
        BarrierStreams x = net("n0 1-0;n3 0-0;n5 1-0;n0 1-1;n3 3-0;n5 4-0;l4;");
        due("none", x.count(6), 0);
        x.steps(3);
        due("none", x.count(6), 0);
        x.marks();
        due("not yet", x.count(6), 0);
        x.steps(1);
        // sums of 0, 4, 10: 4 and 10; of 7, 11, 17: 24 and 11
        due("POSITIONS and sums", x.count(6), 6);
        x.marks();
        x.steps(1);
        due("POSITIONS alone", x.count(6), 2);
        x.steps(9);
        x.marks();
        x.steps(1);
        // 18 and 25 came since
        due("what changed", x.count(6), 4);
        x.fails();
        due("a failure leaves it", x.count(6), 4);
        due("a sum stored long ago", x.sum(1, 0), 4);
        due("a sum stored last", x.sum(1, 2), 28);
        x.lengthens(5);
        x.steps(9);
        x.fails();
        due("a sum gone back", x.sum(1, 0), 4);
        x.marks();
        x.steps(1);
        due("nothing is other than in the last one", x.count(6), 2);
    }

    private static void type() {
        promise = "promise 14";
        BarrierStreams x = new BarrierStreams();
        due("128", x.type(128), BAD);
        due("-1", x.type(-1), BAD);
        due("0", x.type(0), 1);
        due("127", x.type(127), 2);
        for (int i = 3; i <= 120; i++) {
            due("byte " + i, x.type(';'), i);
        }
        due("one more", x.type(';'), FULL);
        due("BAD ahead of FULL", x.type(128), BAD);
        due("bytes", x.told(3), 120);
        due("STATES", x.told(4), 0);
        due("BAD", x.told(0), 3);
        due("FULL", x.told(2), 1);
    }

    private static void clear() {
        promise = "promise 15";
        BarrierStreams x = new BarrierStreams();
        due("an empty one", x.clear(), 0);
        x.type('m');
        x.type(';');
        due("bytes", x.clear(), 2);
        due("none", x.told(3), 0);
        due("the next byte", x.type('m'), 1);
        due("it is too short", x.does(), -11);
        due("STATES", x.told(4), 0);
    }

    private static void does() {
        promise = "promise 16";
        BarrierStreams x = new BarrierStreams();
        due("all orders", doText(x, "n0 1-5;n 1 00 - 07;n3 1-0;n2 2-3;n4 0 3 0;n5 4-0;l30;a0;s12;m;s 9;f;"), 12);
        due("THE TEXT stays", x.told(3), 68);
        due("one STATE", x.told(4), 1);
        due("nodes", x.count(0), 6);
        due("a number of 2 figures", x.of(1, 3), 7);
        due("T", x.count(1), 21);
        due("LENGTH", x.count(2), 30);
        due("ALIGNED", x.count(5), 0);
        due("failures", x.count(7), 1);
        due("done again", x.does(), 6);
        due("T", x.count(1), 42);
        due("nothing counts", x.told(0) + x.told(1) + x.told(2), 0);
        due("back", x.back(), 1);
        due("T", x.count(1), 21);
        due("back", x.back(), 0);
        due("nodes", x.count(0), 0);
        x = new BarrierStreams();
        due("blanks", doText(x, "  n  0   1  -  5  ;  s  2  ;  m  ; "), 3);
        due("T", x.count(1), 2);
        due("no blanks beside a -", doText(new BarrierStreams(), "n0---;n0-5-;n0 1-5;"), 1);
        StringBuilder longest = new StringBuilder();
        for (int i = 0; i < 60; i++) {
            longest.append("f;");
        }
        due("60 orders", doText(x, longest.toString()), 60);
        due("failures", x.count(7), 60);
    }

    private static void doesFaults() {
        promise = "promise 16";
        String[] texts = {
            "", " ", "   ", "x", "S1;", "5;", ";", " ;", "m;;", "m;m", "m;m ", "mm;", "m 1;", "f-;", "s;", "s ;", "s",
            "s1", "s 1 ", "s-;", "s1-;", "s123;", "s12 3;", "s1 2;", "l 100;", "a1;x", "a1; l", "n-1-1;", "n0;",
            "n0 1;", "n0 1-;", "n0 1-5", "n0 1-5 5;", "n0 1--5;", "n0 1- 5-;", "n0 100-5;", "n0--;", "n 0 1 2 3 4;",
            "n012345;", "s1;\t", "s\u00001;", "s 1\u007f;", "n0 1-5,", "s+1;"
        };
        int[] faults = {
            0, 1, 3, 0, 0, 0, 0, 1, 2, 3, 4, 1, 2, 1, 1, 2, 1, 2, 4, 1, 2, 3, 4, 3, 4, 3, 5, 1, 2,
            4, 5, 6, 7, 6, 7, 5, 4, 10, 3, 3, 1, 3, 6, 1
        };
        for (int i = 0; i < texts.length; i++) {
            BarrierStreams x = new BarrierStreams();
            due("'" + texts[i] + "'", doText(x, texts[i]), -10 - faults[i]);
            due("STATES", x.told(4), 0);
            due("nothing is refused", x.told(0) + x.told(1) + x.told(2), 0);
        }
        BarrierStreams x = new BarrierStreams();
        due("orders ahead of a FAULT", doText(x, "n0 1-5;s9;l5;s1 x"), -26);
        due("are not done", x.count(0) + x.count(1), 0);
        due("LENGTH", x.count(2), 20);
        StringBuilder full = new StringBuilder();
        for (int i = 0; i < 120; i++) {
            full.append(i == 119 ? "m" : " ");
        }
        due("a FAULT at 120", doText(x, full.toString()), -130);
    }

    private static void doesPassesOver() {
        promise = "promise 16";
        BarrierStreams x = new BarrierStreams();
        due("all passed over", doText(x, "s0;s61;l31;a2;n6 0-0;n1 0-0;n0 0-0;n0---;"), 0);
        due("a STATE all the same", x.told(4), 1);
        due("nothing counts", x.told(0) + x.told(1) + x.told(2), 0);
        due("as the calls would be then", doText(x, "m;m;a0;f;a0;m;s1;n0 1-0;"), 5);
        due("nodes", x.count(0), 0);
        due("ALIGNED", x.count(5), 0);
        due("nothing counts", x.told(0) + x.told(1) + x.told(2), 0);
        x = new BarrierStreams();
        String tooMany = "n0 1-0;n4 0 0 0;n4 1 1 0;n4 0 0 0;n0 1-0;n0 1-0;n0 1-0;n0 1-0;n5 7-0;n5 0-0;n5 0-0;";
        due("too many JOINS and NODES", doText(x, tooMany), 8);
        due("nodes", x.count(0), 8);
        due("NONE where a number is due", doText(x, "n1--0;n4 0-0;n0---;l3;"), 1);
    }

    private static void back() {
        promise = "promise 17";
        BarrierStreams x = new BarrierStreams();
        due("none", x.back(), NO);
        due("refused", x.told(1), 1);
        doText(x, "n0 1-0;n3 0-0;n4 1 0 0;n5 2-0;a0;");
        x.steps(9);
        x.marks();
        x.steps(2);
        int before = x.told(0);
        for (int i = 1; i < 7; i++) {
            x.steps(i);
        }
        due("STATES", x.told(4), 5);
        for (int i = 5; i >= 1; i--) {
            due("back", x.back(), i - 1);
            due("T", x.count(1), 11 + i * (i + 1) / 2);
        }
        due("older ones are lost", x.back(), NO);
        due("T", x.count(1), 12);
        for (int i = 2; i < 7; i++) {
            due("T by the same STEPS", x.steps(i), 11 + i * (i + 1) / 2);
        }
        due("refused stays", x.told(1), 2);
        due("BAD stays", x.told(0), before);
        BarrierStreams y = net("n0 1-0;n3 0-0;n4 1 0 0;n5 2-0;a0;s9;m;s2;");
        long one = y.digest();
        y.steps(7);
        y.back();
        due("all as it was", y.digest(), one);
        y.steps(60);
        y.fails();
        y.begins();
        y.back();
        y.back();
        y.back();
        due("all as it was", y.digest(), one);
        y.clear();
        y.fails();
        y.type('m');
        y.back();
        due("THE TEXT stays", y.told(3), 1);
        BarrierStreams z = net("n0 1-0;");
        z.lengthens(20);
        z.aligns(1);
        z.lengthens(40);
        due("also if nothing becomes other, but not if refused", z.told(4), 3);
        z.back();
        z.fails();
        due("a STATE in the place of one taken back", z.told(4), 3);
        due("back", z.back(), 2);
        due("failures", z.count(7), 0);
    }

    private static void backToOtherNodes() {
        promise = "promise 17";
        BarrierStreams x = net(FAST_IN_1);
        x.marks();
        x.steps(7);
        x.steps(1);
        x.begins();
        due("another net", doText(x, "n0 9-9;n1 0-3;n5 0-0;n4 1 0 0;n4 0 3 0;"), 5);
        x.clear();
        due("back", x.back(), 4);
        due("back", x.back(), 3);
        due("b", x.of(2, 2), 1);
        x.fails();
        dueRow("the RECORD of the old net", letters(x, 2, 1), 68, 78, 90);
        x.back();
        due("back", x.back(), 2);
        due("under way", x.count(4), 1);
        x.fails();
        due("a RECORD that is not WHOLE yet", x.count(9), 0);
        due("POSITION", x.of(0, 4), 0);
        x = net("n0 1-0;n4 0 0 0;");
        x.node(JOIN, 1, 1, 0);
        due("a third JOIN", x.node(JOIN, 1, 1, 0), FULL);
        x.back();
        due("the second one again", x.node(JOIN, 0, 1, 0), 2);
        due("b", x.of(2, 2), 1);
        x.begins();
        x.node(SOURCE, 9, NONE, 8);
        x.back();
        x.back();
        due("PERIOD", x.of(0, 1), 1);
        due("K", x.of(0, 3), 0);
        due("a third JOIN", x.node(JOIN, 1, 1, 0), FULL);
    }

    private static void told() {
        promise = "promise 18";
        BarrierStreams x = new BarrierStreams();
        due("what 5", x.told(5), BAD);
        due("what -1", x.told(-1), BAD);
        due("BAD", x.told(0), 2);
        x.back();
        due("NO", x.told(1), 1);
        x.marks();
        x.marks();
        x.aligns(0);
        due("NO", x.told(1), 3);
        due("FULL", x.told(2), 0);
        doText(x, "f;n0 1-0;n4 0 0 0;n4 0 0 0;");
        x.node(JOIN, 0, 0, 0);
        due("FULL", x.told(2), 1);
        due("bytes", x.told(3), 27);
        due("STATES", x.told(4), 2);
        x.back();
        due("refused stay", x.told(0) * 100 + x.told(1) * 10 + x.told(2), 231);
        due("STATES", x.told(4), 1);
    }

    private static void digest() {
        promise = "promise 19";
        BarrierStreams x = new BarrierStreams();
        due("a new one", x.digest(), folded(0, 0, 0, 0, 0, 0, 0, 20, 0, 0, 1, 0, 0, 0, 0));
        x.type('m');
        x.back();
        x.told(7);
        due("told", x.digest(), folded(1, 1, 0, 1, 0, 0, 0, 20, 0, 0, 1, 0, 0, 0, 0));
        x = new BarrierStreams();
        x.node(SOURCE, 1, NONE, 0);
        x.node(TOTALS, 0, NONE, 0);
        x.node(JOIN, 0, 1, 0);
        x.node(SINK, 2, NONE, 0);
        x.steps(4);
        x.marks();
        x.steps(1);
        long want = folded(
            0, 0, 0, 0, 5,
            4, 5, 20, 0, 1, 1, 0, 0, 0, 5,
            SOURCE, 1, NONE, 0, 4, 0, NONE, NONE, NONE, 1,
            TOTALS, 0, NONE, 0, NONE, 0, NONE, NONE, NONE, 1, 4, 0, 28, 0,
            JOIN, 0, 1, 0, NONE, 0, 1, NONE, NONE, 0, 18, BARRIER, 10, 28, BARRIER,
            SINK, 2, NONE, 0, NONE, 0, NONE, NONE, NONE, 0, 0, 0, 4, 4, 10);
        due("a net", x.digest(), want);
        due("again: it changes nothing", x.digest(), want);
        BarrierStreams y = net("n0 1-0;n5 0-0;n0 9-0;s1;m;s1;f;s2;m;s6;m;s3;");
        long rows = folded(
            0, 0, 0, 44, 1,
            3, 13, 20, 1, 1, 1, 2, 1, 0, 0,
            SOURCE, 1, NONE, 0, 9, 0, NONE, NONE, NONE, 1,
            SINK, 0, NONE, 0, NONE, 0, NONE, NONE, NONE, 1, 70, 88, 10, 18, 28, 40, 54, 0, 4,
            SOURCE, 9, NONE, 0, 0, 1, NONE, NONE, NONE, 0);
        due("rows", y.digest(), rows);
    }

    private static long folded(int... values) {
        long h = 2545;
        for (int v : values) {
            h = 31 * h + v;
        }
        return h;
    }
}
