import java.io.IOException;
import java.util.ArrayList;
import java.util.List;

/** The sentences that name a boundary of texts, STATES and refusals (promises 14 to 19), a test for each. */
public final class BoundaryTextTest {
    private static final int NONE = Probe.NONE, BAD = Probe.BAD, NO = Probe.NO, FULL = Probe.FULL;
    private static final int SOURCE = Probe.SOURCE, ADDER = Probe.ADDER, JOIN = Probe.JOIN, SINK = Probe.SINK;
    private static final int LEAST = Integer.MIN_VALUE, MOST = Integer.MAX_VALUE;

    // The last WHOLE SNAPSHOT has a RECORD and sums; another one is under way, and the JOIN RECORDS.
    private static final String RICH = "n0 2-0;n0 1-50;n4 0 1 0;n3 2-0;n5 3-0;l30;a0;s6;m;s8;s5;m;s2;";
    // IN 0 of the JOIN is BLOCKED and has LETTERS, one SOURCE has to MARK yet.
    private static final String BLOCKED = "n0 1-0;n0 9-0;n4 0 1 0;n5 2-0;n5 0-0;s10;m;s5;";
    // The next STEP makes the SNAPSHOT WHOLE, and 20 ITEMS LOST.
    private static final String LOST = "n0 1-0;n4 0 0 0;n4 1 1 0;n5 2-0;l30;s60;s60;s60;m;s2;";

    public static void main(String[] args) throws IOException, IllegalAccessException {
        Sentence.runAll(BoundaryTextTest.class, 14, 19);
    }

    // ---- THE TEXT

    static void textOf120Bytes() {
        Sentence.of(14, "THE TEXT (120 bytes at most)");
        Probe x = new Probe();
        for (int i = 1; i <= 60; i++) {
            x.due(2 * i - 1, "type", 'f');
            x.due(2 * i, "type", ';');
        }
        x.refuses(FULL, "type", 'f');
        x.due(120, "told", 3);
        x.due(60, "does");
        x.due(60, "count", 7);
        x.due(120, "clear");
        x.due(1, "type", 'f');
    }

    static void typeBytes() {
        Sentence.of(14, "A byte (0 .. 127) comes behind THE TEXT: how many it has. BAD; FULL: 120.");
        Probe x = new Probe();
        for (int c : new int[] {LEAST, -1, 128, MOST}) {
            x.refuses(BAD, "type", c);
        }
        x.due(1, "type", 0);
        x.due(2, "type", 127);
        x.type(";".repeat(117));
        x.due(119, "told", 3);
        x.refuses(BAD, "type", 128);
        x.due(120, "type", ';');
        x.refuses(BAD, "type", 128);
        x.refuses(BAD, "type", -1);
        x.refuses(FULL, "type", 0);
        x.refuses(FULL, "type", 127);
        x.due(7, "told", 0);
        x.due(2, "told", 2);
        x.due(0, "told", 4);
    }

    static void clearEmptyAndFull() {
        Sentence.of(15, "THE TEXT is empty: how many it had.");
        Probe x = new Probe();
        x.due(0, "clear");
        x.due(1, "type", 'm');
        x.due(1, "clear");
        x.due(0, "clear");
        x.due(0, "told", 3);
        x.due(-10, "does");
        x.type(" ".repeat(120));
        x.due(FULL, "type", ' ');
        x.due(120, "clear");
        x.due(0, "told", 3);
        x.due(0, "told", 4);
        x.type("m;");
        x.due(1, "does");
    }

    static void eachOrderIsEnded() {
        Sentence.of(16, "tells ORDERS, each ended by ;");
        faults("m", 1, "m;m", 3, "m;f;s1", 6, "mf;", 1, "s1 m;", 3, "m;;", 2, ";", 0, ";m;", 0, "n0 1-0", 6,
            "l1:", 2, "a1<", 2);
        done("m;", 1, "m;f;", 2, "m;f;s1;", 3, "m ;f ;s 1 ;", 3);
    }

    static void signsOfOrders() {
        Sentence.of(16, "s n (as steps), m (as marks), f (as fails), a v (as aligns), l n (as lengthens).");
        done("s60;", 1, "s1;", 1, "m;", 1, "f;", 1, "a0;", 1, "a1;", 1, "l0;", 1, "l30;", 1, "n0 9-99;", 1);
        done("s0;", 0, "s61;", 0, "a2;", 0, "l31;", 0, "n6 1-0;", 0);
        faults("b1;", 0, "M;", 0, "F;", 0, "S1;", 0, "N0 1-0;", 0, "A1;", 0, "L1;", 0, "o0 1-0;", 0, "t1;", 0,
            "k1;", 0, "e;", 0, "g;", 0, "r1;", 0);
        faults("s;", 1, "a;", 1, "l;", 1, "n;", 1, "m1;", 1, "f1;", 1, "m-;", 1, "n0;", 2, "n0 1;", 4, "n0 1-;", 5,
            "n0 1-0 0;", 7, "n0 1-0-;", 6, "s1 1;", 3, "s1-;", 2);
    }

    static void minusIsNoneForABK() {
        Sentence.of(16, "for each of a, b, k a - alone is NONE");
        Probe x = new Probe();
        x.does(1, "n0 1-0;");
        x.due(NONE, "of", 0, 2);
        done("n0---;", 0, "n0 - - -;", 0, "n0-1 1;", 0, "n0 1--;", 0, "n0 1 1-;", 0, "n0-- 5;", 0, "n0-5-;", 0);
        faults("n- 1-0;", 1, "n-1-0;", 1, "s-;", 1, "s -;", 2, "a-;", 1, "l-;", 1, "s-1;", 1, "n0 1-0-", 6,
            "n0----;", 5, "-;", 0, "m-;", 1);
    }

    static void numbersOf1Or2Figures() {
        Sentence.of(16, "Numbers have 1 or 2 figures");
        Probe x = new Probe();
        x.does(1, "s5;");
        x.due(5, "count", 1);
        x.does(1, "s05;");
        x.due(10, "count", 1);
        x.does(1, "s60;");
        x.due(70, "count", 1);
        x.does(0, "s99;");
        x.does(0, "s00;");
        x.due(70, "count", 1);
        x.does(2, "l00;a01;");
        x.due(0, "count", 2);
        x.ask("begins");
        x.does(2, "n00 09-99;n01 00-00;");
        x.due(99, "of", 0, 3);
        x.due(ADDER, "of", 1, 0);
        faults("s005;", 3, "s100;", 3, "l030;", 3, "a001;", 3, "n000 1-0;", 3, "n0 001-0;", 5, "n0 1-000;", 7,
            "n4 0 000 0;", 7, "s/;", 1, "s:;", 1, "s5/;", 2, "s5:;", 2);
    }

    static void blanksAnywhereButWithinANumber() {
        Sentence.of(16, "blanks (32) may stand anywhere but within a number");
        Probe x = new Probe();
        x.does(3, "   n   0   9   -   99   ;   s   60   ;   m   ;   ");
        x.due(99, "of", 0, 3);
        x.due(60, "count", 1);
        x.due(1, "count", 4);
        String wide = "s" + " ".repeat(117) + "1;";
        Probe full = new Probe();
        full.does(1, wide);
        full.due(1, "count", 1);
        faults("s6 0;", 3, "l3 0;", 3, "n0 1-9 9;", 7, "n0 0 1-0;", 7);
        for (int c : new int[] {0, 9, 10, 13, 31, 33, 127}) {
            String sign = String.valueOf((char) c);
            faults(sign + "m;", 0, "m" + sign + ";", 1, "m;" + sign, 2, "s" + sign + "1;", 1);
        }
    }

    static void blanksNeededBetweenFigures() {
        Sentence.of(16, "needed only where figures of two numbers would else stand side by side");
        done("n0 1-0;", 1, "n0 1 -0;", 1, "n0 1- 0;", 1, "n00 01-00;", 1, "n0 1-0;n4 0 0 0;", 2,
            "n0 1-0;n4 00 00 00;", 2, "n0 1-0;n3 0-0;", 2, "m;s1;f;", 3);
        faults("n01-0;", 5, "n001-0;", 3, "n4000;", 3, "n40 0 0;", 7, "n4 000;", 5, "n4 00 0;", 7, "n0 1-0;n30-0;", 12);
    }

    static void textIsReadWholeFirst() {
        Sentence.of(16, "THE TEXT is read whole first; an ORDER that its call would refuse then is passed over.");
        Probe x = new Probe();
        x.does(2, "n5 0-0;n0 1-0;n5 0-0;");
        x.due(SOURCE, "of", 0, 0);
        x.due(SINK, "of", 1, 0);
        x.does(3, "m;m;a0;s1;n5 0-0;m;a0;");
        x.due(2, "count", 0);
        x.due(1, "count", 5);
        x.due(1, "count", 4);
        x.does(1, "a0;m;l31;l30;");
        x.due(30, "count", 2);
        Probe eight = new Probe();
        eight.does(8, "n0 1-0;n4 0 0 0;n4 0 0 0;n4 0 0 0;n0 1-0;n0 1-0;n0 1-0;n0 1-0;n0 1-1;n0 1-2;n0 1-3;");
        eight.due(8, "count", 0);
        eight.due(1, "of", 7, 3);
    }

    static void faultIsThePlace() {
        Sentence.of(16, "FAULT: the place of the first byte that can not stand there (a third figure)");
        faults("x", 0, " x", 1, "m;x", 2, "m; x", 3, "s123;", 3, "s 123;", 4, "s1;s123;x", 6, "n0 1-0;n123", 10,
            "xx", 0, "m x x", 2);
        faults(" ".repeat(119) + "x", 119, "f;".repeat(59) + "f!", 119, "f;".repeat(59) + "!;", 118);
    }

    static void faultIsTheLengthIfItEndsTooEarly() {
        Sentence.of(16, "the TEXT's length, if it ends too early (an empty one, too)");
        faults("", 0, " ", 1, " ".repeat(120), 120, "m", 1, "m ", 2, "s", 1, "s1", 2, "s12", 3, "n", 1, "n0", 2,
            "n0 ", 3, "n0 1", 4, "n0 1-", 5, "n0 1-0", 6, "m;s", 3, "m; s ", 5);
        faults("f;".repeat(59) + " f", 120, "f;".repeat(59) + "f", 119);
    }

    static void nothingIsDoneByAFault() {
        Sentence.of(16, "If there is one, nothing is done.");
        Probe x = Probe.net(RICH);
        x.ask("clear");
        x.type("s1;f;m;l3;a1;s60;x");
        Probe without = x.again();
        x.due(-10 - 17, "does");
        x.dueSameAs(without, "a FAULT");
        Probe late = new Probe();
        late.does(-10 - 119, "n0 1-0;s60;m;f;l3;" + " ".repeat(101) + "x");
        late.due(0, "count", 0);
        late.due(0, "count", 1);
        late.due(20, "count", 2);
        late.due(0, "count", 7);
        late.due(0, "told", 4);
    }

    static void doesLeavesOneState() {
        Sentence.of(16, "ORDERS are done (THE TEXT stays): how many were not passed over. S (one STATE for all)."
            + " -10 less the FAULT (no S).");
        Probe x = new Probe();
        x.type("s1;s61;s2;");
        x.due(2, "does");
        x.due(10, "told", 3);
        x.due(1, "told", 4);
        x.due(2, "does");
        x.due(6, "count", 1);
        x.due(2, "told", 4);
        x.due(1, "back");
        x.due(3, "count", 1);
        x.due(0, "back");
        x.due(0, "count", 1);
        x.does(0, "s61;");
        x.due(1, "told", 4);
        x.does(-10, "");
        x.does(-11, "s");
        x.due(1, "told", 4);
        x.does(60, "f;".repeat(60));
        x.due(2, "told", 4);
        x.due(1, "back");
        x.due(0, "count", 7);
    }

    // ---- STATES

    static void eachCallToldSLeavesOne() {
        Sentence.of(17, "each call told S, if it is not refused, leaves one, also if nothing becomes other by it");
        String[] names = {"begins", "lengthens", "aligns", "steps", "marks", "fails", "node"};
        int[][] numbers = {{}, {20}, {1}, {1}, {}, {}, {SOURCE, 1, NONE, 0}};
        for (int i = 0; i < names.length; i++) {
            Probe x = new Probe();
            x.ask(names[i], numbers[i]);
            x.due(1, "told", 4);
            x.ask("begins");
            x.ask(names[i], numbers[i]);
            x.due(3, "told", 4);
            x.due(2, "back");
            x.due(1, "back");
            x.due(0, "back");
            x.due(NO, "back");
            x.due(0, "count", 0);
        }
        Probe others = new Probe();
        others.type("m;");
        others.ask("clear");
        others.ask("does");
        for (String getter : new String[] {"count", "told"}) {
            others.ask(getter, 0);
        }
        others.ask("digest");
        others.ask("lengthens", 31);
        others.ask("aligns", 2);
        others.ask("steps", 0);
        others.ask("back");
        others.due(0, "told", 4);
    }

    static void fiveStatesAtMost() {
        Sentence.of(17, "to go back to (all but THE TEXT and how often refused), 5 at most, older ones lost");
        Probe x = new Probe();
        for (int i = 1; i <= 4; i++) {
            x.ask("steps", 1);
            x.due(i, "told", 4);
        }
        x.ask("steps", 1);
        x.due(5, "told", 4);
        x.ask("steps", 1);
        x.due(5, "told", 4);
        x.ask("steps", 1);
        x.due(5, "told", 4);
        x.due(BAD, "steps", 61);
        x.type("m;");
        for (int left = 4; left >= 0; left--) {
            x.due(left, "back");
            x.due(2 + left, "count", 1);
        }
        x.refuses(NO, "back");
        x.due(2, "count", 1);
        x.due(1, "told", 0);
        x.due(2, "told", 3);
        for (int i = 1; i <= 6; i++) {
            x.due(2 + i, "steps", 1);
        }
        for (int left = 4; left >= 0; left--) {
            x.due(left, "back");
            x.due(3 + left, "count", 1);
        }
        x.due(NO, "back");
    }

    static void backHoldsAll() {
        Sentence.of(17, "to go back to (all but THE TEXT and how often refused)");
        String[] changes = {"s1;", "f;", "s60;", "f;m;s9;", "l3;f;a1;s60;m;s60;f;"};
        for (String net : new String[] {RICH, BLOCKED, LOST}) {
            for (String change : changes) {
                Probe x = Probe.net(net);
                x.ask("clear");
                x.type(change);
                Probe without = x.again();
                x.ask("does");
                x.due(1, "back");
                x.dueSameAs(without, change + " and back");
            }
        }
        Probe anew = Probe.net(RICH);
        Probe without = anew.again();
        anew.ask("begins");
        anew.ask("node", SOURCE, 9, NONE, 9);
        anew.ask("node", JOIN, 0, 0, 0);
        anew.ask("node", JOIN, 0, 1, 0);
        for (int left = 4; left >= 1; left--) {
            anew.due(left, "back");
        }
        anew.dueSameAs(without, "begins and back");
    }

    // The nets must be as their comments say, or the tests that go back to them would show little.
    static void netsToGoBackTo() {
        Sentence.of(17, "A STATE back");
        Probe rich = Probe.net(RICH);
        rich.due(1, "count", 3);
        rich.due(1, "of", 2, 8);
        rich.due(1, "count", 4);
        Probe blocked = Probe.net(BLOCKED);
        blocked.due(0, "of", 2, 7);
        blocked.due(1, "of", 1, 5);
        Sentence.due("LETTERS wait", blocked.letters(2, 0).size() > 1, true);
        Probe lost = Probe.net(LOST);
        lost.due(0, "count", 8);
        lost.due(183, "steps", 1);
        lost.due(20, "count", 8);
    }

    static void backWithoutAny() {
        Sentence.of(17, "A STATE back: how many can be yet. NO: none.");
        Probe none = new Probe();
        none.refuses(NO, "back");
        none.refuses(NO, "back");
        none.ask("marks");
        none.due(0, "back");
        none.refuses(NO, "back");
        none.due(3, "told", 1);
    }

    // ---- refusals

    static void refusedChangesNothing() {
        Sentence.of(18, "Refused (any call, getters, too), changing nothing but how often, the first of: BAD -2 a number"
            + " is not as told; NO -3, FULL -4 as told.");
        Probe x = Probe.net(RICH);
        x.due(1, "of", 2, 8);
        x.due(1, "count", 3);
        x.refuses(BAD, "node", 6, 0, NONE, 0);
        x.refuses(NO, "node", SINK, 0, NONE, 0);
        x.refuses(BAD, "lengthens", 31);
        x.refuses(BAD, "aligns", -1);
        x.refuses(NO, "aligns", 1);
        x.refuses(BAD, "steps", 61);
        x.refuses(NO, "marks");
        x.refuses(BAD, "of", 5, 0);
        x.refuses(BAD, "letter", 2, 2, 0);
        x.refuses(BAD, "sum", 3, 4);
        x.refuses(BAD, "row", 4, 3, 0);
        x.refuses(BAD, "count", 10);
        x.refuses(BAD, "type", 128);
        x.refuses(BAD, "told", 5);
        x.due(11, "told", 0);
        x.due(3, "told", 1);
        x.due(0, "told", 2);
    }

    static void theFirstRefusalCounts() {
        Sentence.of(18, "the first of: BAD -2 a number is not as told; NO -3, FULL -4 as told");
        Probe x = Probe.net("n0 1-0;n4 0 0 0;n4 0 0 0;n0 1-0;n0 1-0;n0 1-0;n0 1-0;n5 0-0;s1;m;");
        x.refuses(BAD, "node", JOIN, 0, 7, 0);
        x.refuses(NO, "node", JOIN, 0, 0, 0);
        x.refuses(BAD, "aligns", 2);
        x.refuses(NO, "aligns", 1);
        x.ask("clear");
        x.type(" ".repeat(120));
        x.due(BAD, "type", -1);
        x.due(FULL, "type", 0);
        x.due(3, "told", 0);
        x.due(2, "told", 1);
        x.due(1, "told", 2);
    }

    static void faultsAndOrdersPassedOverDoNotCount() {
        Sentence.of(18, "By a FAULT, by ORDERS passed over nothing counts.");
        Probe x = new Probe();
        x.does(-10, "");
        x.does(-12, "s1");
        x.does(-13, "s100;");
        x.does(0, "s0;s61;l31;a2;n6 0-0;");
        x.does(2, "m;m;a0;s1;n0 1-0;");
        x.ask("begins");
        x.does(8, "n0 1-0;n4 0 0 0;n4 0 0 0;n4 0 0 0;n0 1-0;n0 1-0;n0 1-0;n0 1-0;n0 1-1;n0 1-2;n0 1-3;");
        for (int what = 0; what < 3; what++) {
            x.due(0, "told", what);
        }
    }

    static void toldNumbers() {
        Sentence.of(18, "How often refused: BAD (0), NO (1), FULL (2); bytes of THE TEXT (3), STATES (4). BAD.");
        Probe x = new Probe();
        for (int what : new int[] {LEAST, -1, 5, MOST}) {
            x.refuses(BAD, "told", what);
        }
        x.due(4, "told", 0);
        x.refuses(NO, "back");
        x.due(1, "told", 1);
        x.type(" ".repeat(120));
        x.due(0, "told", 2);
        x.refuses(FULL, "type", ' ');
        x.due(1, "told", 2);
        x.due(120, "told", 3);
        for (int i = 1; i <= 6; i++) {
            x.ask("fails");
            x.due(Math.min(i, 5), "told", 4);
        }
        x.ask("begins");
        x.due(4, "told", 0);
        x.due(1, "told", 1);
        x.due(1, "told", 2);
        x.ask("back");
        x.due(4, "told", 0);
        x.due(1, "told", 1);
        x.due(1, "told", 2);
        x.due(120, "told", 3);
        x.due(4, "told", 4);
    }

    // ---- digest

    static void digestOfAll() {
        Sentence.of(19, "h = 2545; then h = 31 h + v for each v: told(0) to told(4); count(0) to count(9); of each NODE"
            + " of(0) to of(9), then of IN 0, IN 1 (those it has) all LETTERS, of TOTALS the sums, of a SINK the rows"
            + " OPEN, PENDING, OUTPUT.");
        String[] nets = {
            "s1;", "n0 1-0;", RICH, RICH + "f;", "n0 2-0;n0 1-50;n1 1-1;n4 0 2 0;n5 3-0;a0;l30;s26;m;s30;f;",
            "n0 1-0;n4 0 0 0;n4 1 1 0;n5 2-0;n0 9-0;l30;s60;s60;s60;s1;m;s9;",
            "n0 1-0;n1 0-9;n2 1-7;n3 2-0;n4 3 0 0;n4 4 1 0;n5 5-0;n5 2-0;s3;m;s2;", "n0 1-0;n5 0-0;n0 9-0;s5;m;s3;"
        };
        dueDigest(new Probe());
        for (String net : nets) {
            dueDigest(Probe.net(net));
        }
        Probe refused = new Probe();
        refused.ask("type", 128);
        refused.ask("back");
        refused.ask("back");
        refused.type(" ".repeat(120));
        for (int i = 0; i < 3; i++) {
            refused.ask("type", 0);
        }
        dueDigest(refused);
    }

    private static void dueDigest(Probe x) {
        List<Integer> values = new ArrayList<>();
        for (int what = 0; what < 3; what++) {
            values.add(x.tell("told", what));
        }
        values.addAll(x.all());
        long h = 2545;
        for (int v : values) {
            h = 31 * h + v;
        }
        x.due(h, "digest");
        x.due(h, "digest");
    }

    // ---- texts with what is due

    /** Texts, each with its FAULT; it leaves no STATE, and nothing is refused. */
    private static void faults(Object... textsAndFaults) {
        for (int i = 0; i < textsAndFaults.length; i += 2) {
            Probe x = new Probe();
            x.does(-10 - (int) textsAndFaults[i + 1], (String) textsAndFaults[i]);
            x.due(0, "told", 4);
            for (int what = 0; what < 3; what++) {
                x.due(0, "told", what);
            }
        }
    }

    /** Texts, each with what is answered on a new object. */
    private static void done(Object... textsAndAnswers) {
        for (int i = 0; i < textsAndAnswers.length; i += 2) {
            new Probe().does((int) textsAndAnswers[i + 1], (String) textsAndAnswers[i]);
        }
    }
}
