import java.io.IOException;

/** The sentences that name a boundary of the works (promises 1 to 8, and the terms they use), a test for each. */
public final class BoundaryWorksTest {
    private static final int NONE = Probe.NONE, BAD = Probe.BAD, NO = Probe.NO, FULL = Probe.FULL;
    private static final int BARRIER = Probe.BARRIER;
    private static final int SOURCE = Probe.SOURCE, ADDER = Probe.ADDER, SIEVE = Probe.SIEVE, TOTALS = Probe.TOTALS;
    private static final int JOIN = Probe.JOIN, SINK = Probe.SINK;
    private static final int LEAST = Integer.MIN_VALUE, MOST = Integer.MAX_VALUE;
    private static final int OPEN = 0, PENDING = 1, OUTPUT = 2;

    // Two STEPS after it IN 0 of the JOIN is BLOCKED, and its SOURCE goes on; the other one MARKS at T 9.
    private static final String BLOCKING = "n0 1-0;n0 9-0;n4 0 1 0;n5 2-0;s1;m;";
    // IN 0 of the JOIN is empty, three ITEMS wait in IN 1, TURN is 0.
    private static final String WAITING = "n0 2-0;n0 1-50;n4 0 1 0;n5 2-0;l30;s6;";
    // 11 ITEMS wait ahead of IN 1 of the JOIN, 6 of them at the ADDER; the SNAPSHOT makes them its RECORD.
    private static final String LONG_RECORD = "n0 2-0;n0 1-50;n1 1-1;n4 0 2 0;n5 3-0;a0;l30;s26;m;s30;";
    private static final int[] LONG_RECORD_ITEMS = {59, 89, 21, 55, 91, 29, 69, 11, 55, 1, 49};
    // The SINK gets each ITEM four times.
    private static final String FOURFOLD = "n0 1-0;n4 0 0 0;n4 1 1 0;n5 2-0;";

    public static void main(String[] args) throws IOException, IllegalAccessException {
        Sentence.runAll(BoundaryWorksTest.class, 1, 8);
    }

    // ---- what it is, NODES, CHANNELS

    static void the512thCall() {
        Sentence.of(6, "An object is used for at most 512 calls after it has been made");
        Probe x = new Probe();
        for (int i = 1; i <= 511; i++) {
            x.due(60 * i, "steps", 60);
        }
        x.due(511 * 60, "count", 1);
        Probe refused = new Probe();
        for (int i = 1; i <= 511; i++) {
            refused.due(BAD, "count", 10);
        }
        refused.due(511, "told", 0);
        Probe failing = new Probe();
        failing.due(0, "node", SOURCE, 1, NONE, 0);
        for (int i = 2; i <= 511; i++) {
            failing.due(0, "fails");
        }
        failing.due(510, "count", 7);
        Probe texts = new Probe();
        texts.type("s60;".repeat(30));
        for (int i = 121; i <= 511; i++) {
            texts.due(30, "does");
        }
        texts.due(391 * 30 * 60, "count", 1);
    }

    static void nodesAreNumbered0To7() {
        Sentence.of(3, "7, as they come");
        Probe x = new Probe();
        x.refuses(BAD, "of", 0, 0);
        for (int n = 0; n < 8; n++) {
            x.due(n, "node", SOURCE, 1, NONE, n);
            x.due(n, "of", n, 3);
            x.due(BAD, "of", n + 1, 3);
        }
        x.due(8, "count", 0);
        x.due(FULL, "node", SOURCE, 1, NONE, 8);
        x.due(8, "count", 0);
        x.due(7, "of", 7, 3);
    }

    static void kinds() {
        Sentence.of(3, "each of a KIND: 0 SOURCE, 1 ADDER, 2 SIEVE, 3 TOTALS, 4 JOIN (never more than 2), 5 SINK");
        Probe x = new Probe();
        x.refuses(BAD, "node", -1, 1, NONE, 0);
        x.refuses(BAD, "node", LEAST, 1, NONE, 0);
        x.due(0, "node", SOURCE, 1, NONE, 0);
        x.due(1, "node", ADDER, 0, NONE, 1);
        x.due(2, "node", SIEVE, 0, NONE, 1);
        x.due(3, "node", TOTALS, 0, NONE, 0);
        x.due(4, "node", JOIN, 0, 0, 0);
        x.due(5, "node", SINK, 0, NONE, 0);
        for (int kind = 0; kind <= 5; kind++) {
            x.due(kind, "of", kind, 0);
        }
        x.refuses(BAD, "node", 6, 0, NONE, 0);
        x.refuses(BAD, "node", MOST, 0, NONE, 0);
    }

    static void joinsAreNeverMoreThan2() {
        Sentence.of(3, "4 JOIN (never more than 2)");
        Probe x = Probe.net("n0 1-0;n4 0 0 0;");
        x.due(2, "node", JOIN, 0, 1, 0);
        x.refuses(FULL, "node", JOIN, 0, 1, 0);
        x.due(3, "node", ADDER, 2, NONE, 0);
        x.refuses(FULL, "node", JOIN, 3, 3, 0);
        x.ask("back");
        x.ask("back");
        x.due(2, "node", JOIN, 1, 0, 0);
        x.refuses(FULL, "node", JOIN, 0, 0, 0);
        x.ask("begins");
        x.does(3, "n0 1-0;n4 0 0 0;n4 0 0 0;");
        x.refuses(FULL, "node", JOIN, 0, 0, 0);
    }

    static void insOfEachKind() {
        Sentence.of(3, "All but SOURCES have an IN 0, JOINS an IN 1, too");
        Probe x = Probe.net("n0 1-0;n1 0-1;n2 0-1;n3 0-0;n4 0 1 0;n5 0-0;");
        x.due(BAD, "letter", SOURCE, 0, 0);
        x.due(BAD, "letter", SOURCE, 1, 0);
        for (int kind = ADDER; kind <= SINK; kind++) {
            x.due(NONE, "letter", kind, 0, 0);
            x.due(kind == JOIN ? NONE : BAD, "letter", kind, 1, 0);
            x.due(BAD, "letter", kind, 2, 0);
        }
        x.due(11, "told", 0);
    }

    static void insAreLesserNodesThatAreNoSinks() {
        Sentence.of(3, "NODES of lesser numbers that are no SINKS");
        int[] wrong = {LEAST, -2, NONE, 1, 3, 4, MOST};
        for (int kind = ADDER; kind <= SINK; kind++) {
            int k = kind == SIEVE ? 1 : 0;
            Probe x = Probe.net("n0 1-0;n5 0-0;n1 0-0;");
            for (int a : wrong) {
                x.refuses(BAD, "node", kind, a, kind == JOIN ? 2 : NONE, k);
            }
            for (int b : wrong) {
                if (kind == JOIN) {
                    x.refuses(BAD, "node", JOIN, 2, b, 0);
                }
            }
            x.due(3, "node", kind, 2, kind == JOIN ? 0 : NONE, k);
            x.due(4, "node", kind, 0, kind == JOIN ? 2 : NONE, k);
        }
    }

    static void bothInsOfAJoinMayBeOne() {
        Sentence.of(3, "(both INS of a JOIN may be one)");
        Probe x = new Probe();
        x.ask("node", SOURCE, 1, NONE, 0);
        x.refuses(BAD, "node", JOIN, 1, 1, 0);
        x.due(1, "node", JOIN, 0, 0, 0);
        x.due(2, "node", JOIN, 1, 1, 0);
        x.due(1, "of", 2, 1);
        x.due(1, "of", 2, 2);
        x.ask("steps", 1);
        x.dueLetters(1, 0);
        x.dueLetters(1, 1, 0);
        x.dueLetters(2, 0);
        x.dueLetters(2, 1, 0);
    }

    static void lettersAre0To99OrTheBarrier() {
        Sentence.of(6, "a row of LETTERS (ITEMS 0 .. 99, or THE BARRIER), the first one first out");
        Probe most = Probe.net("n0 1-57;n4 0 0 0;n5 1-0;s1;");
        most.dueLetters(1, 1, 99);
        most.ask("steps", 2);
        most.ask("marks");
        most.ask("steps", 1);
        most.dueLetters(1, 0, 9, BARRIER);
        most.dueLetters(1, 1, 9, BARRIER);
        most.dueRow(2, OPEN, 99, 99, 3, 3);
        Probe least = Probe.net("n0 1-0;n4 0 0 0;n5 1-0;s1;");
        least.dueLetters(1, 1, 0);
        least.ask("steps", 1);
        least.dueLetters(1, 0, 4);
        least.dueLetters(1, 1, 4);
        least.dueRow(2, OPEN, 0, 0);
    }

    static void eachInHasItsOwnChannel() {
        Sentence.of(6, "For each IN there is a CHANNEL from that NODE");
        Probe x = Probe.net("n0 1-0;n0 1-50;n4 0 1 0;n4 1 0 0;s2;");
        x.dueLetters(2, 0, 4);
        x.dueLetters(2, 1, 54);
        x.dueLetters(3, 0, 54);
        x.dueLetters(3, 1, 4);
    }

    static void outsPerhapsNone() {
        Sentence.of(6, "OUTS of a NODE: all CHANNELS from it, perhaps none.");
        Probe none = Probe.net("n0 1-0;n1 0-0;s1;");
        none.due(1, "of", 0, 4);
        none.dueLetters(1, 0);
        none.due(0, "count", 9);
        Probe seven = Probe.net("n0 1-57;n5 0-0;n5 0-0;n5 0-0;n5 0-0;n5 0-0;n5 0-0;n5 0-0;s2;");
        for (int n = 1; n <= 7; n++) {
            seven.dueRow(n, OPEN, 99, 3);
        }
        Probe two = Probe.net("n0 1-0;n4 0 0 0;n4 0 1 0;s1;");
        two.dueLetters(1, 0);
        two.dueLetters(1, 1, 0);
        two.dueLetters(2, 0);
        two.dueLetters(2, 1, 0);
    }

    static void roomIsFewerThan6() {
        Sentence.of(6, "ROOM: each of its OUTS has fewer than 6 LETTERS (so without OUTS, too).");
        Probe x = Probe.net(BLOCKING);
        x.ask("steps", 6);
        x.dueLetters(2, 0, 4, 10, 18, 28, 40);
        x.due(6, "of", 0, 4);
        x.ask("steps", 1);
        x.dueLetters(2, 0, 4, 10, 18, 28, 40, 54);
        x.due(7, "of", 0, 4);
        x.ask("steps", 1);
        x.dueLetters(2, 0, 4, 10, 18, 28, 40, 54);
        x.due(7, "of", 0, 4);
        x.ask("steps", 2);
        x.dueLetters(2, 0, 10, 18, 28, 40, 54);
        x.due(7, "of", 0, 4);
        x.ask("steps", 1);
        x.dueLetters(2, 0, 18, 28, 40, 54, 70);
        x.due(8, "of", 0, 4);
        Probe without = Probe.net("n0 1-0;l30;s30;");
        without.due(30, "of", 0, 4);
    }

    static void sentIntoEachOutOrNone() {
        Sentence.of(6, "To SEND a LETTER: it comes last into each of its OUTS.");
        Probe x = Probe.net("n0 1-0;n0 9-0;n4 0 1 0;n5 2-0;n5 0-0;s1;m;");
        x.ask("steps", 7);
        x.dueLetters(2, 0, 4, 10, 18, 28, 40, 54);
        x.dueRow(4, PENDING, 0);
        x.dueRow(4, OPEN, 4, 10, 18, 28, 40, 54);
        x.ask("steps", 1);
        x.dueLetters(2, 0, 4, 10, 18, 28, 40, 54);
        x.dueRow(4, OPEN, 4, 10, 18, 28, 40, 54);
        x.dueLetters(4, 0);
    }

    // ---- what each KIND does

    static void sourceNumbers() {
        Sentence.of(3, "A SOURCE has a K (0 .. 99), a PERIOD (1 .. 9), a POSITION (0 at first)");
        Probe x = new Probe();
        for (int k : new int[] {LEAST, -1, 100, MOST}) {
            x.refuses(BAD, "node", SOURCE, 1, NONE, k);
        }
        for (int period : new int[] {LEAST, NONE, 0, 10, MOST}) {
            x.refuses(BAD, "node", SOURCE, period, NONE, 0);
        }
        x.due(0, "node", SOURCE, 1, NONE, 0);
        x.due(1, "node", SOURCE, 9, NONE, 99);
        x.due(0, "of", 0, 4);
        x.due(0, "of", 1, 4);
        x.due(9, "of", 1, 1);
        x.due(99, "of", 1, 3);
    }

    static void itemsOfASource() {
        Sentence.of(6, "ITEM i of it (i 0 on): (K * 7 + i * i + i * 3) % 100");
        Probe x = Probe.net("n0 1-0;n5 0-0;n0 1-28;n5 2-0;n0 1-57;n5 4-0;n0 1-99;n5 6-0;l30;s30;");
        x.due(0, "row", 1, OPEN, 0);
        x.due(28, "row", 1, OPEN, 29);
        x.due(96, "row", 3, OPEN, 0);
        x.due(0, "row", 3, OPEN, 1);
        x.due(99, "row", 5, OPEN, 0);
        x.due(3, "row", 5, OPEN, 1);
        x.due(93, "row", 7, OPEN, 0);
        x.due(21, "row", 7, OPEN, 29);
    }

    static void lengthIs0To30() {
        Sentence.of(4, "LENGTH (of all SOURCES) 0 .. 30; 20 at first");
        Probe x = Probe.net("n0 1-0;n0 1-5;s60;");
        x.due(20, "of", 0, 4);
        x.due(20, "of", 1, 4);
        for (int n : new int[] {LEAST, -1, 31, MOST}) {
            x.refuses(BAD, "lengthens", n);
        }
        x.due(20, "lengthens", 30);
        x.ask("steps", 60);
        x.due(30, "of", 0, 4);
        x.due(30, "of", 1, 4);
        x.ask("begins");
        x.due(20, "count", 2);
        x.due(20, "lengthens", 0);
        x.does(3, "n0 1-0;n0 1-5;s60;");
        x.due(0, "of", 0, 4);
        x.due(0, "of", 1, 4);
        x.due(0, "count", 2);
    }

    static void adderK() {
        Sentence.of(3, "An ADDER (K 0 .. 99)");
        Probe x = Probe.net("n0 1-0;");
        for (int k : new int[] {LEAST, -1, 100, MOST}) {
            x.refuses(BAD, "node", ADDER, 0, NONE, k);
        }
        x.due(1, "node", ADDER, 0, NONE, 0);
        x.due(2, "node", ADDER, 0, NONE, 99);
        x.due(99, "of", 2, 3);
    }

    static void adderWrapsAround() {
        Sentence.of(6, "makes (ITEM + K) % 100 of an ITEM");
        Probe x = Probe.net("n0 1-57;n1 0-0;n1 0-1;n1 0-99;n5 1-0;n5 2-0;n5 3-0;s2;");
        x.dueRow(4, OPEN, 99, 3);
        x.dueRow(5, OPEN, 0, 4);
        x.dueRow(6, OPEN, 98, 2);
        Probe zero = Probe.net("n0 1-0;n1 0-99;n5 1-0;s2;");
        zero.dueRow(2, OPEN, 99, 3);
    }

    static void sieveK() {
        Sentence.of(3, "a SIEVE (K 1 .. 99)");
        Probe x = Probe.net("n0 1-0;");
        for (int k : new int[] {LEAST, -1, 0, 100, MOST}) {
            x.refuses(BAD, "node", SIEVE, 0, NONE, k);
        }
        x.due(1, "node", SIEVE, 0, NONE, 1);
        x.due(2, "node", SIEVE, 0, NONE, 99);
        x.due(99, "of", 2, 3);
    }

    static void sieveKeepsBackMultiples() {
        Sentence.of(6, "lets it through, if ITEM % K is not 0, else nothing comes of it");
        Probe x = Probe.net("n0 1-0;n2 0-1;n2 0-99;n2 0-10;n5 1-0;n5 2-0;n5 3-0;s6;");
        x.dueRow(4, OPEN);
        x.dueRow(5, OPEN, 4, 10, 18, 28, 40);
        x.dueRow(6, OPEN, 4, 18, 28);
        x.due(0, "count", 9);
        Probe of99 = Probe.net("n0 1-57;n2 0-99;n2 0-98;n5 1-0;n5 2-0;s2;");
        of99.dueRow(3, OPEN, 3);
        of99.dueRow(4, OPEN, 99, 3);
    }

    static void totalsWrapAround() {
        Sentence.of(6, "TOTALS have 4 sums (0 at first): ITEM is added to that of ITEM % 4,"
            + " and what comes of it is that sum % 100 then");
        Probe x = Probe.net("n0 1-1;n3 0-0;n5 1-0;l8;");
        for (int j = 0; j < 4; j++) {
            x.due(0, "sum", 1, j);
        }
        x.ask("steps", 5);
        x.due(53, "sum", 1, 3);
        x.ask("steps", 1);
        x.due(100, "sum", 1, 3);
        x.ask("steps", 2);
        x.dueRow(2, OPEN, 7, 18, 17, 42, 53, 0, 3, 80);
        x.due(0, "sum", 1, 0);
        x.due(180, "sum", 1, 1);
        x.due(0, "sum", 1, 2);
        x.due(100, "sum", 1, 3);
        Probe even = Probe.net("n0 1-0;n3 0-0;n5 1-0;l3;s3;");
        even.dueRow(2, OPEN, 0, 4, 10);
        even.due(4, "sum", 1, 0);
        even.due(10, "sum", 1, 2);
    }

    static void sinkPutsLast() {
        Sentence.of(6, "a JOIN lets it through; a SINK puts it last into its OPEN row");
        Probe x = Probe.net(FOURFOLD);
        x.dueRow(3, OPEN);
        x.ask("steps", 5);
        x.dueRow(3, OPEN, 0, 0, 0, 0, 4);
        x.does(4, "l30;s60;s60;s60;");
        x.due(28, "row", 3, OPEN, 119);
        x.due(NONE, "row", 3, OPEN, 120);
        x.due(0, "count", 9);
    }

    // ---- STEPS

    static void eachActsOnceTheLeastFirst() {
        Sentence.of(6, "STEP number T (0, 1, ..): NODES act once each, the least number first");
        Probe chain = Probe.net("n0 1-0;n1 0-1;n1 1-1;n1 2-1;n1 3-1;n1 4-1;n1 5-1;n5 6-0;s1;");
        chain.dueRow(7, OPEN, 6);
        chain.due(0, "count", 9);
        chain.due(1, "of", 0, 4);
        Probe once = Probe.net("n0 1-0;n0 1-50;n4 0 1 0;n5 2-0;s1;");
        once.dueRow(3, OPEN, 0);
        once.dueLetters(2, 1, 50);
    }

    static void sourceWaitsForItsPeriod() {
        Sentence.of(6, "a SOURCE, if T % PERIOD is 0 and it has ROOM");
        Probe x = Probe.net("n0 9-0;n0 1-0;n0 2-0;s1;");
        x.due(1, "of", 0, 4);
        x.ask("steps", 8);
        x.due(1, "of", 0, 4);
        x.due(9, "of", 1, 4);
        x.due(5, "of", 2, 4);
        x.ask("steps", 1);
        x.due(2, "of", 0, 4);
        x.due(10, "of", 1, 4);
        x.due(5, "of", 2, 4);
    }

    static void sourceMarks() {
        Sentence.of(6, "if it has to MARK, it SENDS THE BARRIER, has to MARK no more, its PART is POSITION, and WHOLE");
        Probe period = Probe.net("n0 9-0;n5 0-0;n0 1-0;s1;m;s8;");
        period.due(1, "of", 0, 5);
        period.due(0, "of", 0, 9);
        period.due(0, "of", 2, 5);
        period.due(1, "of", 2, 9);
        period.ask("steps", 1);
        period.due(0, "of", 0, 5);
        period.due(1, "of", 0, 4);
        period.due(1, "count", 3);
        period.dueRow(1, OUTPUT, 0);
        Probe room = Probe.net("n0 1-0;n0 1-0;n1 0-0;n4 2 1 0;n5 3-0;s11;m;s1;");
        room.due(1, "of", 1, 5);
        room.due(11, "of", 1, 4);
        room.ask("steps", 1);
        room.due(0, "of", 1, 5);
        room.due(11, "of", 1, 4);
        room.due(1, "of", 1, 9);
        room.due(BARRIER, "letter", 3, 1, 5);
        Probe ended = Probe.net("n0 1-0;n5 0-0;l0;s3;m;s1;");
        ended.due(1, "count", 3);
        ended.due(1, "count", 6);
        ended.due(0, "of", 0, 4);
    }

    static void sourceStopsAtLength() {
        Sentence.of(6, "else, if POSITION is below LENGTH, it SENDS ITEM POSITION, and POSITION is one more");
        Probe x = Probe.net("n0 1-0;n5 0-0;l3;s2;");
        x.due(2, "of", 0, 4);
        x.ask("steps", 1);
        x.due(3, "of", 0, 4);
        x.ask("steps", 1);
        x.due(3, "of", 0, 4);
        x.ask("lengthens", 2);
        x.ask("steps", 1);
        x.due(3, "of", 0, 4);
        x.ask("lengthens", 4);
        x.ask("steps", 2);
        x.due(4, "of", 0, 4);
        x.dueRow(1, OPEN, 0, 4, 10, 18);
    }

    static void nothingIsTakenWithoutRoom() {
        Sentence.of(6, "another one, if it has ROOM: it takes the first LETTER of IN 0's CHANNEL, if there is one");
        Probe sieve = Probe.net("n0 1-0;n0 9-0;n2 0-70;n4 2 1 0;n5 3-0;s1;m;s7;");
        sieve.dueLetters(3, 0, 4, 10, 18, 28, 40, 54);
        sieve.dueLetters(2, 0);
        sieve.ask("steps", 3);
        sieve.dueLetters(2, 0, 70, 88, 8);
        sieve.dueLetters(3, 0, 10, 18, 28, 40, 54);
        sieve.ask("steps", 1);
        sieve.dueLetters(2, 0, 88, 8, 30);
        sieve.dueLetters(3, 0, 18, 28, 40, 54);
        Probe barrier = Probe.net("n0 1-0;n0 1-0;n1 0-0;n4 2 1 0;n5 3-0;s12;m;s1;");
        barrier.dueLetters(2, 0, BARRIER);
        barrier.due(0, "of", 2, 9);
        barrier.ask("steps", 1);
        barrier.dueLetters(2, 0, 80);
        barrier.due(1, "of", 2, 9);
        Probe join = Probe.net("n0 1-0;n0 1-0;n4 0 0 0;n4 2 1 0;n5 3-0;s13;");
        join.due(0, "of", 2, 6);
        join.dueLetters(2, 0, 54, 70, 88, 8, 30, 54);
        join.dueLetters(2, 1, 54, 70, 88, 8, 30, 54);
        join.ask("steps", 1);
        join.due(1, "of", 2, 6);
        join.dueLetters(2, 0, 70, 88, 8, 30, 54);
        Probe empty = Probe.net("n0 9-0;n1 0-0;n5 1-0;s9;");
        empty.dueRow(2, OPEN, 0);
    }

    static void joinTakesOfTurnElseOfTheOther() {
        Sentence.of(6, "but a JOIN that of IN TURN (0 at first), if there is one and that IN is not BLOCKED,"
            + " else of its other IN likewise");
        Probe first = Probe.net("n0 1-0;n0 1-50;n4 0 1 0;n5 2-0;");
        first.due(0, "of", 2, 6);
        first.ask("steps", 2);
        first.dueRow(3, OPEN, 0, 50);
        Probe empty = Probe.net("n0 9-0;n0 1-50;n4 0 1 0;n5 2-0;s4;");
        empty.dueRow(3, OPEN, 0, 50, 54, 60);
        Probe blocked = Probe.net(WAITING + "m;s2;");
        blocked.due(0, "of", 2, 7);
        blocked.due(0, "of", 2, 6);
        blocked.ask("steps", 1);
        blocked.dueLetters(2, 0, 18);
        blocked.dueRow(3, OPEN, 0, 50, 4, 54, 10, 60, 68, 78);
        blocked.due(0, "of", 2, 6);
        blocked.ask("steps", 1);
        blocked.dueRow(3, OPEN, 0, 50, 4, 54, 10, 60, 68, 78, 90);
        blocked.ask("steps", 1);
        blocked.due(NONE, "of", 2, 7);
        blocked.due(1, "count", 3);
    }

    static void joinThatTookNone() {
        Sentence.of(6, "If it took none, nothing happens.");
        Probe x = Probe.net(BLOCKING);
        x.ask("steps", 2);
        x.due(1, "of", 2, 6);
        x.due(0, "of", 2, 7);
        x.ask("steps", 6);
        x.due(1, "of", 2, 6);
        x.due(0, "of", 2, 7);
        x.dueRow(3, OPEN, 0, 0);
        x.dueLetters(2, 0, 4, 10, 18, 28, 40, 54);
        Probe empty = Probe.net("n0 1-0;n4 0 0 0;n5 1-0;l0;s9;");
        empty.due(0, "of", 1, 6);
        empty.dueRow(2, OPEN);
    }

    static void turnIsTheInNotTakenFrom() {
        Sentence.of(6, "A JOIN's TURN is then the IN from which it did not take.");
        Probe x = Probe.net(BLOCKING.replace("s1;m;", "s1;"));
        x.due(1, "of", 2, 6);
        x.ask("marks");
        x.ask("steps", 1);
        x.due(0, "of", 2, 6);
        x.ask("steps", 1);
        x.due(0, "of", 2, 7);
        x.due(1, "of", 2, 6);
        x.ask("steps", 7);
        x.due(NONE, "of", 2, 7);
        x.due(0, "of", 2, 6);
        x.ask("steps", 1);
        x.due(1, "of", 2, 6);
        x.ask("steps", 1);
        x.due(1, "of", 2, 6);
    }

    static void sinkMeetsTheBarrier() {
        Sentence.of(6, "a SINK puts all of its OPEN row, in its order, behind its PENDING row (OPEN is empty then);"
            + " its PART (nothing) is WHOLE");
        Probe x = Probe.net("n0 1-0;n5 0-0;n0 9-0;s1;");
        x.ask("steps", 3);
        x.ask("marks");
        x.ask("steps", 1);
        x.dueRow(1, OPEN);
        x.dueRow(1, PENDING, 0, 4, 10, 18);
        x.due(1, "of", 1, 9);
        x.ask("steps", 1);
        x.dueRow(1, OPEN, 28);
        x.dueRow(1, PENDING, 0, 4, 10, 18);
        Probe empty = Probe.net("n0 1-0;n5 0-0;n0 9-0;l0;s1;m;s1;");
        empty.dueRow(1, PENDING);
        empty.due(1, "of", 1, 9);
        Probe most = Probe.net(FOURFOLD + "n0 9-0;l30;s60;s60;s60;s1;");
        most.does(2, "m;s7;");
        most.due(1, "of", 3, 9);
        most.due(1, "count", 4);
        most.due(28, "row", 3, PENDING, 119);
        most.due(NONE, "row", 3, PENDING, 120);
        most.due(NONE, "row", 3, OPEN, 0);
    }

    static void alignedJoin() {
        Sentence.of(6, "a JOIN, ALIGNED: if no IN is BLOCKED, the IN from which it came is BLOCKED; else no IN is"
            + " BLOCKED any more, THE BARRIER is SENT, its PART (nothing) is WHOLE");
        Probe x = Probe.net(BLOCKING);
        x.ask("steps", 1);
        x.due(NONE, "of", 2, 7);
        x.ask("steps", 1);
        x.due(0, "of", 2, 7);
        x.due(NONE, "of", 2, 8);
        x.due(0, "of", 2, 9);
        x.due(0, "of", 3, 9);
        x.ask("steps", 6);
        x.due(0, "of", 2, 7);
        x.ask("steps", 1);
        x.due(NONE, "of", 2, 7);
        x.due(1, "count", 3);
        x.due(2, "count", 6);
        x.dueRow(3, OUTPUT, 0, 0);
        Probe one = Probe.net("n0 9-0;n0 1-0;n4 0 1 0;s1;m;s2;");
        one.due(1, "of", 2, 7);
        Probe both = Probe.net("n0 1-0;n4 0 0 0;n5 1-0;m;s1;");
        both.due(0, "of", 1, 7);
        both.dueLetters(1, 1, BARRIER);
        both.ask("steps", 1);
        both.due(NONE, "of", 1, 7);
        both.due(1, "count", 3);
    }

    static void joinThatIsNotAligned() {
        Sentence.of(6, "if it does not RECORD, THE BARRIER is SENT, and it RECORDS the other IN: from now on each ITEM"
            + " that it takes from there is also put last into its RECORD (empty when this begins)");
        Probe x = Probe.net(WAITING + "a0;m;s1;");
        x.due(1, "of", 2, 8);
        x.due(NONE, "of", 2, 7);
        x.due(0, "of", 2, 9);
        x.due(1, "of", 3, 9);
        x.ask("steps", 7);
        x.due(1, "count", 3);
        x.due(5, "count", 6);
        x.dueLetters(2, 1, 4, 20, 38, 58, 80);
        x.ask("marks");
        x.ask("steps", 1);
        x.due(1, "of", 2, 8);
        x.ask("steps", 11);
        x.due(2, "count", 3);
        x.due(7, "count", 6);
        x.ask("fails");
        x.dueLetters(2, 1, 4, 20, 38, 58, 80);
        Probe failed = Probe.net(WAITING + "a0;m;s4;f;m;s4;");
        failed.due(1, "count", 3);
        failed.due(2, "count", 6);
    }

    static void recordEnds() {
        Sentence.of(6, "if it RECORDS (THE BARRIER came from that IN then), it RECORDS no more, its PART is the RECORD,"
            + " and WHOLE");
        Probe x = Probe.net(WAITING + "a0;m;s7;");
        x.due(1, "of", 2, 8);
        x.due(0, "of", 2, 9);
        x.dueLetters(2, 1, BARRIER, 4, 20, 38, 58, 80);
        x.ask("steps", 1);
        x.due(NONE, "of", 2, 8);
        x.due(1, "count", 3);
        x.dueRow(3, OUTPUT, 0, 50, 4, 54, 10, 60);
        x.dueRow(3, OPEN, 68, 18, 78, 28, 90, 40);
        x.ask("fails");
        x.dueLetters(2, 0);
        x.dueLetters(2, 1, 68, 78, 90);
        Probe empty = Probe.net("n0 1-0;n4 0 0 0;n5 1-0;a0;m;s1;");
        empty.due(1, "of", 1, 8);
        empty.ask("steps", 1);
        empty.due(NONE, "of", 1, 8);
        empty.due(1, "count", 3);
        empty.due(1, "count", 6);
        empty.ask("fails");
        empty.due(0, "count", 9);
        Probe inZero = Probe.net("n0 9-0;n0 1-0;n4 0 1 0;s1;a0;m;s2;");
        inZero.due(0, "of", 2, 8);
    }

    // 100 is a multiple of 10 and of 4: only an ITEM may be kept back, added to or summed up.
    static void othersSendTheBarrier() {
        Sentence.of(6, "any other: THE BARRIER is SENT, its PART is WHOLE");
        Probe x = Probe.net("n0 1-1;n2 0-10;n1 1-99;n3 2-0;n4 3 3 0;n5 4-0;n0 9-0;s1;");
        x.due(6, "sum", 3, 2);
        x.does(2, "m;s1;");
        x.dueLetters(4, 0, BARRIER);
        x.dueLetters(4, 1, BARRIER);
        for (int n = 1; n <= 3; n++) {
            x.due(1, "of", n, 9);
        }
        x.due(0, "sum", 3, 0);
        x.due(6, "sum", 3, 2);
        x.ask("steps", 2);
        x.dueRow(5, PENDING, 6, 6);
        x.dueRow(5, OPEN);
    }

    static void partOfTotals() {
        Sentence.of(6, "of TOTALS those of its sums that are other than in the last WHOLE SNAPSHOT (than 0, if there is"
            + " none), else nothing");
        Probe zero = Probe.net("n0 1-0;n3 0-0;l1;s1;m;s1;");
        zero.due(1, "count", 3);
        zero.due(1, "count", 6);
        Probe all = Probe.net("n0 1-0;n0 1-1;n4 0 1 0;n3 2-0;l4;s9;m;s2;");
        all.due(1, "count", 3);
        all.due(2 + 4, "count", 6);
        all.does(2, "m;s2;");
        all.due(2, "count", 3);
        all.due(2, "count", 6);
        Probe again = Probe.net("n0 1-0;n3 0-0;l25;s25;m;s1;");
        again.due(1 + 2, "count", 6);
        again.does(4, "l26;s1;m;s1;");
        again.due(26, "of", 0, 4);
        again.due(1, "count", 6);
        again.does(4, "l27;s1;m;s1;");
        again.due(1 + 1, "count", 6);
        again.does(5, "f;l28;s1;m;s1;");
        again.due(4, "count", 3);
        again.due(1 + 1, "count", 6);
    }

    static void snapshotIsWholeBehindAllNodes() {
        Sentence.of(6, "Behind all NODES, if a SNAPSHOT is under way and the PARTS of all NODES are WHOLE: it is WHOLE,"
            + " the last one now, it is under way no more");
        Probe none = new Probe();
        none.ask("steps", 1);
        none.due(0, "count", 3);
        none.ask("marks");
        none.due(0, "count", 3);
        none.ask("steps", 2);
        none.due(1, "count", 3);
        none.due(0, "count", 4);
        Probe chain = Probe.net("n0 1-0;n1 0-1;n1 1-1;n1 2-1;n1 3-1;n1 4-1;n1 5-1;n5 6-0;m;s1;");
        chain.due(1, "count", 3);
        chain.due(0, "count", 4);
        Probe missing = Probe.net("n0 1-0;n5 0-0;n0 9-0;s1;m;s8;");
        missing.due(0, "count", 3);
        missing.due(1, "count", 4);
        missing.due(1, "of", 0, 9);
        missing.due(1, "of", 1, 9);
        missing.due(0, "of", 2, 9);
        missing.ask("steps", 1);
        missing.due(1, "count", 3);
        missing.due(0, "count", 4);
        missing.due(10, "count", 1);
        Probe firstMissing = Probe.net("n0 9-0;n0 1-0;s1;m;s8;");
        firstMissing.due(0, "count", 3);
        firstMissing.ask("steps", 1);
        firstMissing.due(1, "count", 3);
    }

    static void outputHasNeverMoreThan100() {
        Sentence.of(6, "each SINK's PENDING row comes behind its OUTPUT row (which never has more than 100;"
            + " what is more is LOST), PENDING is empty");
        Probe hundred = Probe.net("n0 1-0;n0 9-1;n4 0 1 0;n2 2-99;n4 2 3 0;n5 4-0;l25;s60;s60;s60;s60;m;s9;");
        hundred.due(1, "count", 3);
        hundred.due(NONE, "row", 5, OUTPUT, 99);
        hundred.does(4, "l26;s2;m;s9;");
        hundred.due(2, "count", 3);
        hundred.due(0, "row", 5, OUTPUT, 99);
        hundred.due(NONE, "row", 5, OUTPUT, 100);
        hundred.due(0, "count", 8);
        Probe more = Probe.net("n0 9-0;n0 1-1;n4 0 1 0;n2 2-99;n4 2 3 0;n5 4-0;l25;s60;s60;s60;s60;m;s9;");
        more.due(1, "count", 3);
        more.due(NONE, "row", 5, OUTPUT, 99);
        more.does(4, "l26;s2;m;s9;");
        more.due(2, "count", 3);
        more.due(7, "row", 5, OUTPUT, 99);
        more.due(NONE, "row", 5, OUTPUT, 100);
        more.due(1, "count", 8);
        more.due(NONE, "row", 5, PENDING, 0);
    }

    static void eachSinkHasItsOwn100() {
        Sentence.of(6, "(which never has more than 100; what is more is LOST)");
        Probe x = Probe.net(FOURFOLD + "n5 2-0;n5 0-0;l25;s60;s60;s60;m;s9;");
        x.due(1, "count", 3);
        x.due(80, "row", 3, OUTPUT, 51);
        x.due(48, "row", 3, OUTPUT, 99);
        x.due(48, "row", 4, OUTPUT, 99);
        x.due(0, "count", 8);
        x.does(4, "l30;s60;m;s9;");
        x.due(NONE, "row", 3, OUTPUT, 100);
        x.due(48, "row", 3, OUTPUT, 99);
        x.due(28, "row", 5, OUTPUT, 29);
        x.due(NONE, "row", 5, OUTPUT, 30);
        x.due(20 + 20, "count", 8);
        x.does(3, "f;m;s9;");
        x.due(20 + 20, "count", 8);
    }

    // ---- SNAPSHOTS and failures

    static void snapshotBegins() {
        Sentence.of(7, "A SNAPSHOT that begins: each SOURCE has to MARK, no PART is WHOLE; it is under way till it is"
            + " WHOLE or THE WORKS FAIL.");
        Probe x = Probe.net("n0 1-0;n0 9-0;n5 0-0;n5 1-0;s1;");
        x.due(0, "of", 0, 5);
        x.ask("marks");
        for (int n = 0; n < 4; n++) {
            x.due(n < 2 ? 1 : 0, "of", n, 5);
            x.due(0, "of", n, 9);
        }
        x.ask("steps", 8);
        x.due(1, "count", 4);
        x.ask("steps", 1);
        x.due(0, "count", 4);
        x.ask("marks");
        for (int n = 0; n < 4; n++) {
            x.due(n < 2 ? 1 : 0, "of", n, 5);
            x.due(0, "of", n, 9);
        }
        x.ask("steps", 1);
        x.due(1, "of", 2, 9);
        x.due(1, "count", 4);
        x.ask("fails");
        x.due(0, "count", 4);
        x.due(0, "of", 2, 9);
    }

    static void failureEndsWhatIsUnderWay() {
        Sentence.of(8, "THE WORKS FAIL: no SNAPSHOT is under way, no SOURCE has to MARK, no IN is BLOCKED, none RECORDS,"
            + " TURNS are 0, OPEN and PENDING rows are empty");
        Probe x = Probe.net("n0 1-0;n0 9-0;n4 0 1 0;n5 2-0;n5 0-0;s1;m;s3;");
        x.due(1, "of", 1, 5);
        x.due(1, "of", 2, 6);
        x.due(0, "of", 2, 7);
        x.dueRow(3, OPEN, 0, 0);
        x.dueRow(4, OPEN, 4, 10);
        x.dueRow(4, PENDING, 0);
        x.due(0, "fails");
        x.due(0, "count", 4);
        x.due(0, "of", 1, 5);
        x.due(0, "of", 2, 6);
        x.due(NONE, "of", 2, 7);
        x.dueRow(3, OPEN);
        x.dueRow(4, OPEN);
        x.dueRow(4, PENDING);
        x.due(0, "of", 0, 9);
        x.ask("steps", 30);
        x.due(0, "count", 3);
        x.dueRow(4, OUTPUT);
        Probe records = Probe.net(WAITING + "a0;m;s2;");
        records.due(1, "of", 2, 8);
        records.ask("fails");
        records.due(NONE, "of", 2, 8);
        Probe nothing = new Probe();
        nothing.due(0, "fails");
        nothing.due(1, "count", 7);
        nothing.due(1, "told", 4);
        nothing.due(0, "count", 0);
    }

    static void failureGoesBackToTheParts() {
        Sentence.of(8, "POSITIONS and sums are as when their PARTS of the last WHOLE SNAPSHOT became WHOLE (0 each, if"
            + " there is none)");
        Probe x = Probe.net("n0 1-0;n0 9-0;n3 0-0;n5 2-0;n5 1-0;s2;");
        x.ask("fails");
        x.due(0, "of", 0, 4);
        x.due(0, "of", 1, 4);
        x.due(0, "sum", 2, 0);
        x.ask("back");
        x.does(2, "m;s7;");
        x.due(1, "count", 4);
        x.ask("fails");
        x.due(0, "of", 0, 4);
        x.due(0, "sum", 2, 0);
        x.ask("back");
        x.ask("steps", 1);
        x.due(1, "count", 3);
        x.due(9, "of", 0, 4);
        x.due(160, "sum", 2, 0);
        x.due(152, "sum", 2, 2);
        x.ask("fails");
        x.due(2, "of", 0, 4);
        x.due(1, "of", 1, 4);
        x.due(4, "sum", 2, 0);
        x.due(0, "sum", 2, 2);
        x.does(2, "s1;m;");
        x.ask("steps", 3);
        x.ask("fails");
        x.due(2, "of", 0, 4);
        x.due(4, "sum", 2, 0);
    }

    static void failureFillsChannelsWithRecords() {
        Sentence.of(8, "all CHANNELS are empty, but that of an IN whose RECORD is a PART of the last WHOLE SNAPSHOT holds"
            + " that RECORD's ITEMS in their order (perhaps more than 6)");
        Probe x = Probe.net(LONG_RECORD);
        x.due(1, "count", 3);
        x.due(2 + 11, "count", 6);
        x.ask("fails");
        x.dueLetters(3, 0);
        x.dueLetters(3, 1, LONG_RECORD_ITEMS);
        x.dueLetters(2, 0);
        x.dueLetters(4, 0);
        x.due(11, "count", 9);
        x.due(13, "of", 0, 4);
        x.due(24, "of", 1, 4);
        x.ask("fails");
        x.dueLetters(3, 1, LONG_RECORD_ITEMS);
    }

    // Each failure gives the JOIN what was on its way to it, and more comes behind: all that is not yet put out of the
    // 60 ITEMS (each of the 30 twice) is one RECORD in the end.
    static void aRecordOf45() {
        Sentence.of(8, "holds that RECORD's ITEMS in their order (perhaps more than 6)");
        int[] sent = {
            3, 7, 13, 21, 31, 43, 57, 73, 91, 11, 33, 57, 83, 11, 41, 73, 7, 43, 81, 21, 63, 7, 53, 1, 51, 3, 57, 13, 71, 31
        };
        int[] record = new int[45];
        for (int i = 0; i < record.length; i++) {
            record[i] = sent[(15 + i) / 2];
        }
        Probe x = Probe.net("n0 1-0;n0 2-50;n4 0 0 0;n1 2-1;n1 3-1;n1 4-1;n4 1 5 0;n5 6-0;a0;l30;");
        x.does(19, "s6;m;s60;f;s8;m;s60;s60;f;s10;m;s60;s60;f;s6;m;s60;s60;f;");
        x.due(4, "count", 3);
        x.due(30, "of", 0, 4);
        x.due(15, "of", 1, 4);
        x.due(2 + 45, "count", 6);
        x.due(45, "count", 9);
        x.dueLetters(6, 1, record);
        x.due(NONE, "row", 7, OUTPUT, 15 + 15);
        x.does(6, "a1;s60;s60;s60;m;s60;");
        x.due(5, "count", 3);
        x.due(NONE, "row", 7, OUTPUT, 60 + 30);
        int itemsOf31 = 0;
        for (int item : x.row(7, OUTPUT)) {
            itemsOf31 += item == 31 ? 1 : 0;
        }
        Sentence.due("how often 31 is put out", itemsOf31, 4);
    }

    static void noRoomAsLongAsARecordHas6() {
        Sentence.of(8, "(perhaps more than 6)");
        Probe x = Probe.net(LONG_RECORD + "f;");
        x.ask("steps", 10);
        x.dueLetters(3, 1, 29, 69, 11, 55, 1, 49);
        x.dueLetters(2, 0, 98, 50, 4, 60, 18, 78);
        x.ask("steps", 2);
        x.dueLetters(3, 1, 69, 11, 55, 1, 49);
        x.dueLetters(2, 0, 98, 50, 4, 60, 18, 78);
        x.ask("steps", 1);
        x.dueLetters(3, 1, 69, 11, 55, 1, 49, 99);
        x.dueLetters(2, 0, 50, 4, 60, 18, 78);
        x.ask("aligns", 1);
        for (int whole = 2; whole <= 3; whole++) {
            x.does(3, "m;s60;f;");
            x.due(whole, "count", 3);
            x.due(0, "count", 9);
            x.due(2, "count", 6);
        }
    }

    static void failureLeaves() {
        Sentence.of(8, "OUTPUT rows, T, LENGTH, whether it is ALIGNED, how many were LOST stay.");
        Probe x = Probe.net(FOURFOLD + "a0;l30;s60;s60;s60;m;s9;l7;");
        x.due(20, "count", 8);
        x.ask("fails");
        x.due(28 + 20, "row", 3, OUTPUT, 99);
        x.due(189, "count", 1);
        x.due(7, "count", 2);
        x.due(0, "count", 5);
        x.due(20, "count", 8);
        x.due(1, "count", 3);
        x.due(1, "count", 7);
        x.ask("aligns", 1);
        x.ask("fails");
        x.due(1, "count", 5);
        x.due(2, "count", 7);
    }

    // ---- the calls

    static void aNewObject() {
        Sentence.of(1, "As told; no NODES; ALIGNED.");
        Probe x = new Probe();
        int[] counts = {0, 0, 20, 0, 0, 1, 0, 0, 0, 0};
        for (int what = 0; what < 10; what++) {
            x.due(counts[what], "count", what);
        }
        for (int what = 0; what < 5; what++) {
            x.due(0, "told", what);
        }
        x.refuses(BAD, "of", 0, 0);
        x.refuses(BAD, "letter", 0, 0, 0);
        x.refuses(BAD, "sum", 0, 0);
        x.refuses(BAD, "row", 0, 0, 0);
        x.refuses(NO, "back");
        x.due(0, "clear");
        x.due(0, "begins");
    }

    static void beginsAnew() {
        Sentence.of(2, "All anew, as at first (STATES, THE TEXT, how often refused stay): how many NODES there were. S.");
        Probe x = Probe.net("n0 1-0;n4 0 0 0;n4 1 1 0;n5 2-0;n3 0-0;n0 1-0;n0 1-0;n0 1-0;a0;l30;s60;s60;s60;m;s60;f;m;s1;");
        x.due(20, "count", 8);
        x.due(BAD, "count", 10);
        x.due(NO, "marks");
        x.due(1, "told", 4);
        x.due(8, "begins");
        x.due(2, "told", 4);
        x.due(1, "told", 0);
        x.due(1, "told", 1);
        x.due(92, "told", 3);
        int[] counts = {0, 0, 20, 0, 0, 1, 0, 0, 0, 0};
        for (int what = 0; what < 10; what++) {
            x.due(counts[what], "count", what);
        }
        x.due(0, "begins");
        x.does(8, "n0 1-0;n4 0 0 0;n4 1 1 0;n5 2-0;n3 0-0;n0 1-0;n0 1-0;n0 1-0;");
        Probe other = Probe.net("n0 1-0;n4 0 0 0;n4 1 1 0;n5 2-0;n3 0-0;n0 1-0;n0 1-0;n0 1-0;");
        x.ask("fails");
        other.ask("fails");
        Sentence.due("all but bytes and STATES", x.all().subList(2, x.all().size()),
            other.all().subList(2, other.all().size()));
        for (int states = 4; states >= 1; states--) {
            x.due(states, "back");
        }
        x.due(8, "count", 0);
        x.due(241, "count", 1);
    }

    // The ADDER has the number of a JOIN whose RECORDS were PARTS of both SNAPSHOTS.
    static void beginsForgetsParts() {
        Sentence.of(2, "All anew, as at first");
        Probe x = Probe.net(WAITING + "a0;m;s8;m;s12;");
        x.due(2, "count", 3);
        x.due(7, "count", 6);
        x.ask("begins");
        x.does(4, "n0 1-0;n0 1-0;n1 0-0;n5 2-0;");
        x.does(2, "s3;f;");
        x.due(0, "count", 6);
        x.due(0, "count", 9);
        x.due(0, "of", 0, 4);
        x.does(4, "s3;m;s1;f;");
        x.due(1, "count", 3);
        x.due(2, "count", 6);
        x.due(0, "count", 9);
        x.due(3, "of", 0, 4);
    }

    static void newNodesNumber() {
        Sentence.of(3, "A new NODE: its number.");
        Probe x = new Probe();
        x.due(BAD, "node", SINK, 0, NONE, 0);
        x.due(0, "node", SOURCE, 1, NONE, 0);
        x.due(BAD, "node", SINK, 1, NONE, 0);
        x.due(1, "node", SINK, 0, NONE, 0);
        x.due(2, "node", SINK, 0, NONE, 0);
        x.ask("back");
        x.due(2, "node", SOURCE, 1, NONE, 0);
        x.ask("begins");
        x.due(0, "node", SOURCE, 1, NONE, 0);
    }

    static void nodeNumbers() {
        Sentence.of(3, "SOURCE: a PERIOD, b NONE, k K; ADDER, SIEVE: a IN 0, b NONE, k K; TOTALS, SINK: a IN 0, b NONE,"
            + " k 0; JOIN: a IN 0, b IN 1, k 0.");
        for (int kind = SOURCE; kind <= SINK; kind++) {
            Probe x = Probe.net("n0 1-0;n1 0-0;");
            for (int b : new int[] {LEAST, -2, kind == JOIN ? NONE : 0, kind == JOIN ? 2 : 1, MOST}) {
                x.refuses(BAD, "node", kind, 1, b, kind == SIEVE ? 1 : 0);
            }
            for (int k : new int[] {LEAST, -1, 1, 99, MOST}) {
                if (kind >= TOTALS) {
                    x.refuses(BAD, "node", kind, 1, kind == JOIN ? 0 : NONE, k);
                }
            }
            x.due(2, "node", kind, 1, kind == JOIN ? 0 : NONE, kind == SIEVE ? 1 : 0);
            x.due(1, "of", 2, 1);
            x.due(kind == JOIN ? 0 : NONE, "of", 2, 2);
            x.due(kind == SIEVE ? 1 : 0, "of", 2, 3);
        }
    }

    static void nodeOnlyAtT0() {
        Sentence.of(3, "NO: T is not 0");
        Probe x = new Probe();
        x.due(0, "node", SOURCE, 1, NONE, 0);
        x.ask("marks");
        x.ask("fails");
        x.due(1, "node", SINK, 0, NONE, 0);
        x.ask("steps", 1);
        x.refuses(NO, "node", SINK, 0, NONE, 0);
        x.ask("fails");
        x.refuses(NO, "node", SINK, 0, NONE, 0);
        x.ask("back");
        x.ask("back");
        x.due(2, "node", SINK, 0, NONE, 0);
        x.ask("steps", 60);
        x.refuses(NO, "node", SOURCE, 1, NONE, 0);
        x.ask("begins");
        x.due(0, "node", SOURCE, 1, NONE, 0);
    }

    static void nodeFull() {
        Sentence.of(3, "FULL: there are 8, or 2 JOINS and it is one.");
        Probe eight = Probe.net("n0 1-0;n4 0 0 0;n0 1-0;n0 1-0;n0 1-0;n0 1-0;n0 1-0;");
        eight.due(7, "node", SINK, 0, NONE, 0);
        for (int kind = SOURCE; kind <= SINK; kind++) {
            eight.refuses(FULL, "node", kind, 1, kind == JOIN ? 0 : NONE, kind == SIEVE ? 1 : 0);
        }
        eight.ask("back");
        eight.due(7, "node", JOIN, 0, 0, 0);
        Probe joins = Probe.net("n0 1-0;n4 0 0 0;n4 0 0 0;");
        joins.refuses(FULL, "node", JOIN, 0, 0, 0);
        joins.due(3, "node", SINK, 0, NONE, 0);
    }

    static void nodeRefusalsInTheirOrder() {
        Sentence.of(3, "BAD; NO: T is not 0; FULL: there are 8, or 2 JOINS and it is one.");
        Probe x = Probe.net("n0 1-0;n4 0 0 0;n4 0 0 0;n0 1-0;n0 1-0;n0 1-0;n0 1-0;n5 0-0;");
        x.refuses(BAD, "node", SINK, 8, NONE, 0);
        x.refuses(BAD, "node", JOIN, 0, 7, 0);
        x.refuses(FULL, "node", SINK, 0, NONE, 0);
        x.ask("steps", 1);
        x.refuses(BAD, "node", SINK, 8, NONE, 0);
        x.refuses(NO, "node", SINK, 0, NONE, 0);
        x.refuses(NO, "node", JOIN, 0, 0, 0);
        x.due(3, "told", 0);
        x.due(2, "told", 1);
        x.due(1, "told", 2);
    }

    static void lengthens() {
        Sentence.of(4, "LENGTH becomes n: what it was. S. BAD.");
        Probe x = new Probe();
        x.due(20, "lengthens", 0);
        x.due(0, "lengthens", 30);
        x.due(30, "lengthens", 30);
        x.due(3, "told", 4);
        x.refuses(BAD, "lengthens", 31);
        x.refuses(BAD, "lengthens", -1);
        x.due(30, "count", 2);
        x.due(3, "told", 4);
        x.ask("marks");
        x.due(30, "lengthens", 1);
        x.due(4, "back");
        x.due(30, "count", 2);
    }

    static void aligns() {
        Sentence.of(5, "It is ALIGNED (1), or not (0): what it was. S. BAD; NO: a SNAPSHOT is under way.");
        Probe x = Probe.net("n0 1-0;n5 0-0;");
        x.due(1, "aligns", 1);
        x.due(1, "aligns", 0);
        x.due(0, "aligns", 0);
        x.due(4, "told", 4);
        for (int v : new int[] {LEAST, -1, 2, MOST}) {
            x.refuses(BAD, "aligns", v);
        }
        x.due(0, "count", 5);
        x.ask("marks");
        x.refuses(NO, "aligns", 0);
        x.refuses(NO, "aligns", 1);
        x.refuses(BAD, "aligns", 2);
        x.ask("steps", 1);
        x.due(0, "aligns", 1);
        x.ask("marks");
        x.refuses(NO, "aligns", 0);
        x.ask("fails");
        x.due(1, "aligns", 0);
    }

    static void steps() {
        Sentence.of(6, "n (1 .. 60) STEPS: T then. S. BAD.");
        Probe x = Probe.net("n0 1-0;n5 0-0;l30;");
        for (int n : new int[] {LEAST, -1, 0, 61, MOST}) {
            x.refuses(BAD, "steps", n);
        }
        x.due(1, "steps", 1);
        x.due(1, "of", 0, 4);
        x.due(61, "steps", 60);
        x.due(30, "of", 0, 4);
        x.due(3, "told", 4);
        x.due(2, "back");
        x.due(1, "count", 1);
        x.due(60, "steps", 59);
    }

    static void tIsOneMore() {
        Sentence.of(6, "Then T is one more.");
        Probe x = Probe.net("n0 2-0;");
        x.due(0, "count", 1);
        x.due(1, "steps", 1);
        x.due(1, "of", 0, 4);
        x.due(2, "steps", 1);
        x.due(1, "of", 0, 4);
        x.due(3, "steps", 1);
        x.due(2, "of", 0, 4);
    }

    static void marks() {
        Sentence.of(7, "A SNAPSHOT begins: how many became WHOLE so far, and 1. S. NO: one is under way.");
        Probe x = Probe.net("n0 2-0;n5 0-0;s1;");
        x.due(1, "marks");
        x.refuses(NO, "marks");
        x.ask("steps", 1);
        x.refuses(NO, "marks");
        x.due(3, "told", 4);
        x.ask("steps", 1);
        x.due(2, "marks");
        x.refuses(NO, "marks");
        x.ask("fails");
        x.due(2, "marks");
        x.due(4, "back");
        x.due(0, "count", 4);
        x.due(2, "marks");
        Probe many = new Probe();
        for (int i = 1; i <= 200; i++) {
            many.due(i, "marks");
            many.ask("steps", 1);
        }
        many.due(200, "count", 3);
    }

    static void fails() {
        Sentence.of(8, "THE WORKS FAIL: how many SNAPSHOTS became WHOLE so far. S.");
        Probe x = new Probe();
        x.due(0, "fails");
        x.ask("marks");
        x.due(0, "fails");
        x.ask("marks");
        x.ask("steps", 1);
        x.due(1, "fails");
        x.due(1, "fails");
        x.due(4, "count", 7);
        x.due(5, "told", 4);
        x.due(4, "back");
        x.due(3, "count", 7);
    }
}
