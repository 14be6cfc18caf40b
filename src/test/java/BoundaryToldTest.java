import java.io.IOException;

/** The sentences that name a boundary of what is told (promises 9 to 13), a test for each. */
public final class BoundaryToldTest {
    private static final int NONE = Probe.NONE, BAD = Probe.BAD, BARRIER = Probe.BARRIER;
    private static final int SOURCE = Probe.SOURCE, JOIN = Probe.JOIN, SINK = Probe.SINK, TOTALS = Probe.TOTALS;
    private static final int LEAST = Integer.MIN_VALUE, MOST = Integer.MAX_VALUE;
    private static final int OPEN = 0, PENDING = 1, OUTPUT = 2;

    // Each NODE has the number of its KIND.
    private static final String ALL_KINDS = "n0 1-14;n1 0-77;n2 1-9;n3 2-0;n4 3 0 0;n5 4-0;";
    // The SINK 3 gets each ITEM four times; the SOURCE 4 MARKS late.
    private static final String FOURFOLD = "n0 1-0;n4 0 0 0;n4 1 1 0;n5 2-0;n0 9-0;l30;s60;s60;s60;s1;";
    // By a failure IN 1 of the JOIN 3 holds a RECORD of 11 ITEMS.
    private static final String LONG_RECORD = "n0 2-0;n0 1-50;n1 1-1;n4 0 2 0;n5 3-0;a0;l30;s26;m;s30;";

    public static void main(String[] args) throws IOException, IllegalAccessException {
        Sentence.runAll(BoundaryToldTest.class, 9, 13);
    }

    // ---- of

    static void ofNodeAsItCame() {
        Sentence.of(9, "Of NODE n: KIND (what 0), a (1), b (2), k (3) as it came");
        Probe x = new Probe();
        int[][] nodes = {
            {SOURCE, 9, NONE, 99}, {SOURCE, 1, NONE, 0}, {1, 0, NONE, 99}, {2, 1, NONE, 1}, {TOTALS, 3, NONE, 0},
            {JOIN, 4, 2, 0}, {JOIN, 5, 5, 0}, {SINK, 6, NONE, 0}
        };
        for (int n = 0; n < 8; n++) {
            x.refuses(BAD, "of", n, 0);
            x.due(n, "node", nodes[n]);
        }
        x.ask("steps", 30);
        for (int n = 0; n < 8; n++) {
            for (int what = 0; what < 4; what++) {
                x.due(nodes[n][what], "of", n, what);
            }
        }
    }

    static void ofBad() {
        Sentence.of(9, "(9; 0: none is under way). BAD.");
        Probe x = Probe.net(ALL_KINDS);
        for (int n : new int[] {LEAST, -1, 6, 7, 8, MOST}) {
            x.refuses(BAD, "of", n, 0);
        }
        for (int what : new int[] {LEAST, -1, 10, MOST}) {
            x.refuses(BAD, "of", 0, what);
        }
        x.due(0, "of", 0, 0);
        x.due(0, "of", 5, 9);
        x.due(10, "told", 0);
    }

    static void ofPosition() {
        Sentence.of(9, "POSITION (4; NONE: no SOURCE)");
        Probe x = Probe.net(ALL_KINDS);
        x.due(0, "of", SOURCE, 4);
        x.does(2, "l30;s60;");
        x.due(30, "of", SOURCE, 4);
        for (int kind = 1; kind <= SINK; kind++) {
            x.due(NONE, "of", kind, 4);
        }
    }

    static void ofMark() {
        Sentence.of(9, "whether it has to MARK (5)");
        Probe x = Probe.net(ALL_KINDS + "s1;m;");
        for (int kind = SOURCE; kind <= SINK; kind++) {
            x.due(kind == SOURCE ? 1 : 0, "of", kind, 5);
        }
        x.ask("steps", 1);
        x.due(0, "of", SOURCE, 5);
    }

    static void ofTurn() {
        Sentence.of(9, "TURN (6; NONE: no JOIN)");
        Probe x = Probe.net(ALL_KINDS);
        for (int kind = SOURCE; kind <= SINK; kind++) {
            x.due(kind == JOIN ? 0 : NONE, "of", kind, 6);
        }
        x.ask("steps", 1);
        for (int kind = SOURCE; kind <= SINK; kind++) {
            x.due(kind == JOIN ? 1 : NONE, "of", kind, 6);
        }
    }

    static void ofBlocked() {
        Sentence.of(9, "which IN is BLOCKED (7; NONE)");
        Probe zero = Probe.net("n0 1-0;n0 9-0;n4 0 1 0;s1;m;s1;");
        zero.due(NONE, "of", 2, 7);
        zero.ask("steps", 1);
        zero.due(NONE, "of", 0, 7);
        zero.due(NONE, "of", 1, 7);
        zero.due(0, "of", 2, 7);
        zero.ask("steps", 7);
        zero.due(NONE, "of", 2, 7);
        Probe one = Probe.net("n0 9-0;n0 1-0;n4 0 1 0;s1;m;s2;");
        one.due(1, "of", 2, 7);
        one.ask("fails");
        one.due(NONE, "of", 2, 7);
    }

    static void ofRecords() {
        Sentence.of(9, "which IN it RECORDS (8; NONE)");
        Probe one = Probe.net("n0 1-0;n0 9-0;n4 0 1 0;s1;a0;m;s1;");
        one.due(NONE, "of", 2, 8);
        one.ask("steps", 1);
        one.due(NONE, "of", 0, 8);
        one.due(NONE, "of", 1, 8);
        one.due(1, "of", 2, 8);
        one.due(NONE, "of", 2, 7);
        one.ask("steps", 6);
        one.due(1, "of", 2, 8);
        Probe zero = Probe.net("n0 9-0;n0 1-0;n4 0 1 0;s1;a0;m;s2;");
        zero.due(0, "of", 2, 8);
        zero.ask("fails");
        zero.due(NONE, "of", 2, 8);
    }

    static void ofPart() {
        Sentence.of(9, "whether its PART of the SNAPSHOT under way is WHOLE (9; 0: none is under way)");
        Probe x = Probe.net("n0 1-0;n5 0-0;n0 9-0;s1;");
        x.due(0, "of", 0, 9);
        x.ask("marks");
        x.due(0, "of", 0, 9);
        x.ask("steps", 8);
        x.due(1, "of", 0, 9);
        x.due(1, "of", 1, 9);
        x.due(0, "of", 2, 9);
        x.ask("steps", 1);
        x.due(1, "count", 3);
        for (int n = 0; n < 3; n++) {
            x.due(0, "of", n, 9);
        }
    }

    // ---- letter

    static void letterNotSoMany() {
        Sentence.of(10, "LETTER i of the CHANNEL of an IN of NODE n: an ITEM, BARRIER; NONE: not so many.");
        Probe x = Probe.net("n0 1-57;n4 0 0 0;n5 1-0;");
        x.due(NONE, "letter", 1, 1, 0);
        x.ask("steps", 1);
        x.due(99, "letter", 1, 1, 0);
        x.due(NONE, "letter", 1, 1, 1);
        x.due(NONE, "letter", 1, 0, 0);
        x.does(3, "s2;m;s1;");
        x.due(9, "letter", 1, 0, 0);
        x.due(BARRIER, "letter", 1, 0, 1);
        x.due(NONE, "letter", 1, 0, 2);
        x.due(NONE, "letter", 1, 0, MOST);
        x.due(0, "told", 0);
        Probe six = Probe.net("n0 1-0;n0 9-0;n4 0 1 0;n5 2-0;s1;m;s8;");
        six.due(54, "letter", 2, 0, 5);
        six.due(NONE, "letter", 2, 0, 6);
        Probe eleven = Probe.net(LONG_RECORD + "f;");
        eleven.due(69, "letter", 3, 1, 6);
        eleven.due(49, "letter", 3, 1, 10);
        eleven.due(NONE, "letter", 3, 1, 11);
    }

    static void letterBad() {
        Sentence.of(10, "BAD: it has no such IN, or i is below 0.");
        Probe x = Probe.net(ALL_KINDS + "s9;");
        for (int kind = SOURCE; kind <= SINK; kind++) {
            for (int in : new int[] {LEAST, -1, 0, 1, 2, MOST}) {
                if (in != 0 && in != 1 || kind == SOURCE || in == 1 && kind != JOIN) {
                    x.refuses(BAD, "letter", kind, in, 0);
                }
            }
        }
        for (int i : new int[] {LEAST, -1}) {
            x.refuses(BAD, "letter", JOIN, 0, i);
            x.refuses(BAD, "letter", JOIN, 1, i);
            x.refuses(BAD, "letter", SINK, 0, i);
        }
        for (int n : new int[] {LEAST, -1, 6, 8, MOST}) {
            x.refuses(BAD, "letter", n, 0, 0);
        }
        x.due(6 + 4 * 5 + 4 + 6 + 5, "told", 0);
    }

    // ---- sum

    static void sumNumbers() {
        Sentence.of(11, "Sum j (0 .. 3) of NODE n.");
        Probe x = Probe.net("n0 1-0;n0 1-1;n4 0 1 0;n3 2-0;l3;s9;");
        x.due(4, "sum", 3, 0);
        x.due(17, "sum", 3, 1);
        x.due(10, "sum", 3, 2);
        x.due(18, "sum", 3, 3);
        for (int j : new int[] {LEAST, -1, 4, MOST}) {
            x.refuses(BAD, "sum", 3, j);
        }
        Probe large = Probe.net("n0 1-0;n4 0 0 0;n4 1 1 0;n3 2-0;l30;s60;s60;s60;");
        large.due(4 * 508, "sum", 3, 0);
        large.due(4 * 652, "sum", 3, 2);
    }

    static void sumBad() {
        Sentence.of(11, "BAD: it has no TOTALS, too.");
        Probe x = Probe.net(ALL_KINDS + "s9;");
        for (int kind = SOURCE; kind <= SINK; kind++) {
            if (kind != TOTALS) {
                x.refuses(BAD, "sum", kind, 0);
            }
        }
        for (int n : new int[] {LEAST, -1, 6, 8, MOST}) {
            x.refuses(BAD, "sum", n, 0);
        }
        x.due(10, "told", 0);
    }

    // ---- row

    static void rowNotSoMany() {
        Sentence.of(12, "ITEM i of a row of SINK n: OPEN (which 0), PENDING (1), OUTPUT (2); NONE: not so many.");
        Probe x = Probe.net(FOURFOLD);
        x.due(28, "row", 3, OPEN, 119);
        x.due(NONE, "row", 3, OPEN, 120);
        x.due(NONE, "row", 3, OPEN, MOST);
        x.due(NONE, "row", 3, PENDING, 0);
        x.due(NONE, "row", 3, OUTPUT, 0);
        x.does(2, "m;s7;");
        x.due(NONE, "row", 3, OPEN, 0);
        x.due(0, "row", 3, PENDING, 0);
        x.due(28, "row", 3, PENDING, 119);
        x.due(NONE, "row", 3, PENDING, 120);
        x.due(NONE, "row", 3, PENDING, MOST);
        x.due(NONE, "row", 3, OUTPUT, 0);
        x.ask("steps", 1);
        x.due(1, "count", 4);
        x.ask("steps", 1);
        x.due(NONE, "row", 3, PENDING, 0);
        x.due(0, "row", 3, OUTPUT, 0);
        x.due(48, "row", 3, OUTPUT, 99);
        x.due(NONE, "row", 3, OUTPUT, 100);
        x.due(NONE, "row", 3, OUTPUT, MOST);
        x.due(0, "told", 0);
    }

    static void rowBad() {
        Sentence.of(12, "BAD: it is no SINK, or i is below 0, too.");
        Probe x = Probe.net(ALL_KINDS + "s9;");
        for (int kind = SOURCE; kind < SINK; kind++) {
            x.refuses(BAD, "row", kind, OPEN, 0);
        }
        for (int n : new int[] {LEAST, -1, 6, 8, MOST}) {
            x.refuses(BAD, "row", n, OPEN, 0);
        }
        for (int which : new int[] {LEAST, -1, 3, MOST}) {
            x.refuses(BAD, "row", SINK, which, 0);
        }
        for (int which = OPEN; which <= OUTPUT; which++) {
            x.refuses(BAD, "row", SINK, which, -1);
            x.refuses(BAD, "row", SINK, which, LEAST);
        }
        x.due(5 + 5 + 4 + 6, "told", 0);
    }

    // ---- count

    static void countBad() {
        Sentence.of(13, "ITEMS LOST (8), LETTERS in all CHANNELS (9). BAD.");
        Probe x = Probe.net(ALL_KINDS + "s9;");
        for (int what : new int[] {LEAST, -1, 10, MOST}) {
            x.refuses(BAD, "count", what);
        }
        x.due(6, "count", 0);
        x.due(x.letters(4, 0).size() + x.letters(4, 1).size(), "count", 9);
        x.due(4, "told", 0);
    }

    static void countNodesAndT() {
        Sentence.of(13, "NODES (what 0), T (1), LENGTH (2), SNAPSHOTS that became WHOLE (3)");
        Probe x = new Probe();
        x.due(0, "count", 0);
        for (int n = 1; n <= 8; n++) {
            x.ask("node", SOURCE, 1, NONE, 0);
            x.due(n, "count", 0);
        }
        x.due(0, "count", 1);
        x.ask("steps", 60);
        x.due(60, "count", 1);
        x.ask("lengthens", 0);
        x.due(0, "count", 2);
        x.ask("lengthens", 30);
        x.due(30, "count", 2);
        x.ask("marks");
        x.due(0, "count", 3);
        x.ask("steps", 1);
        x.due(1, "count", 3);
        x.ask("back");
        x.due(0, "count", 3);
    }

    static void countUnderWay() {
        Sentence.of(13, "whether one is under way (4), whether it is ALIGNED (5)");
        Probe x = Probe.net("n0 1-0;");
        x.due(0, "count", 4);
        x.due(1, "count", 5);
        x.ask("aligns", 0);
        x.due(0, "count", 5);
        x.ask("marks");
        x.due(1, "count", 4);
        x.ask("steps", 1);
        x.due(0, "count", 4);
        x.ask("aligns", 1);
        x.due(1, "count", 5);
    }

    static void countOfNumbers() {
        Sentence.of(13, "how many numbers all PARTS of the last WHOLE one have (6: POSITIONS, sums, ITEMS of RECORDS;"
            + " 0: there is none)");
        Probe none = Probe.net("n0 1-0;n3 0-0;n5 1-0;s5;m;");
        none.due(0, "count", 6);
        none.ask("steps", 1);
        none.due(1 + 2, "count", 6);
        none.ask("marks");
        none.due(1 + 2, "count", 6);
        none.ask("fails");
        none.due(1 + 2, "count", 6);
        Probe noNumbers = new Probe();
        noNumbers.does(2, "m;s1;");
        noNumbers.due(1, "count", 3);
        noNumbers.due(0, "count", 6);
        Probe eight = Probe.net("n0 1-0;n0 1-0;n0 1-0;n0 1-0;n0 1-0;n0 1-0;n0 1-0;n0 1-0;m;s1;");
        eight.due(8, "count", 6);
        Probe record = Probe.net(LONG_RECORD);
        record.due(2 + 11, "count", 6);
        record.does(2, "m;s1;");
        record.due(1, "count", 4);
        record.due(2 + 11, "count", 6);
    }

    static void countFailuresAndLost() {
        Sentence.of(13, "how often THE WORKS FAILED (7), ITEMS LOST (8)");
        Probe x = Probe.net(FOURFOLD);
        x.due(0, "count", 7);
        x.due(0, "count", 8);
        x.does(2, "m;s8;");
        x.due(1, "count", 4);
        x.due(0, "count", 8);
        x.ask("steps", 1);
        x.due(20, "count", 8);
        x.ask("fails");
        x.due(1, "count", 7);
        x.due(20, "count", 8);
        x.ask("fails");
        x.due(2, "count", 7);
    }

    static void countLetters() {
        Sentence.of(13, "LETTERS in all CHANNELS (9)");
        Probe x = Probe.net("n0 1-0;n0 1-0;n4 0 0 0;n4 2 1 0;n5 3-0;");
        x.due(0, "count", 9);
        x.ask("steps", 1);
        x.due(2, "count", 9);
        x.ask("steps", 12);
        x.due(6 + 6 + 5 + 6, "count", 9);
        x.ask("fails");
        x.due(0, "count", 9);
        Probe barrier = Probe.net("n0 1-0;n4 0 0 0;n5 1-0;m;s1;");
        barrier.due(1, "count", 9);
        Probe record = Probe.net(LONG_RECORD + "f;");
        record.due(11, "count", 9);
    }
}
