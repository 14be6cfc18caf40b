import java.util.ArrayList;
import java.util.List;
import java.util.Set;

/**
 * An object under test, its calls told by name. It keeps them, so that they can be made again on a new object, and
 * counts them: beyond 512 nothing is promised.
 */
final class Probe {
    static final int NONE = -1, BAD = -2, NO = -3, FULL = -4, BARRIER = 100;
    static final int SOURCE = 0, ADDER = 1, SIEVE = 2, TOTALS = 3, JOIN = 4, SINK = 5;

    private static final int CALLS_MOST = 512, REFUSALS = 3;
    private static final Set<String> GETTERS = Set.of("of", "letter", "sum", "row", "count", "told", "digest");

    private record Call(String name, int[] p) {
    }

    private final BarrierStreams subject = new BarrierStreams();
    private final List<Call> kept = new ArrayList<>();
    private int calls;

    /** A new object that did all ORDERS of a text, none passed over. */
    static Probe net(String text) {
        Probe x = new Probe();
        x.does(text.length() - text.replace(";", "").length(), text);
        return x;
    }

    /** Asks a call; an answer of getters that are not refused changes nothing, so only the others are kept. */
    long ask(String name, int... p) {
        calls++;
        if (calls > CALLS_MOST) {
            Sentence.fault("the test makes more than " + CALLS_MOST + " calls");
        }
        long answer = answer(name, p);
        if (!GETTERS.contains(name) || answer <= BAD && !name.equals("digest")) {
            kept.add(new Call(name, p));
        }
        return answer;
    }

    int tell(String name, int... p) {
        return (int) ask(name, p);
    }

    void due(long want, String name, int... p) {
        Sentence.due(words(name, p), ask(name, p), want);
    }

    /** Types a text in place of the one there was, and does it. */
    void does(int want, String text) {
        ask("clear");
        type(text);
        Sentence.due("does() of '" + text + "'", tell("does"), want);
    }

    void type(String text) {
        for (int i = 0; i < text.length(); i++) {
            ask("type", text.charAt(i));
        }
    }

    void dueLetters(int n, int in, int... want) {
        Sentence.due("LETTERS of NODE " + n + ", IN " + in, letters(n, in), listOf(want));
    }

    void dueRow(int n, int which, int... want) {
        Sentence.due("row " + which + " of SINK " + n, row(n, which), listOf(want));
    }

    List<Integer> letters(int n, int in) {
        List<Integer> all = new ArrayList<>();
        for (int v = tell("letter", n, in, 0); v >= 0; v = tell("letter", n, in, all.size())) {
            all.add(v);
        }
        return all;
    }

    List<Integer> row(int n, int which) {
        List<Integer> all = new ArrayList<>();
        for (int v = tell("row", n, which, 0); v >= 0; v = tell("row", n, which, all.size())) {
            all.add(v);
        }
        return all;
    }

    /** The call is refused, its refusal is counted once, and nothing else is other than without it. */
    void refuses(int want, String name, int... p) {
        Probe without = again();
        due(want, name, p);
        Probe with = again();
        for (int kind = 0; kind < REFUSALS; kind++) {
            int more = kind == BAD - want ? 1 : 0;
            Sentence.due("told(" + kind + ") by " + words(name, p), with.tell("told", kind),
                without.tell("told", kind) + more);
        }
        dueSameAs(without, words(name, p));
    }

    /** Nothing but how often refused is other than in the other object: now, by each way back and by each way on. */
    void dueSameAs(Probe other, String by) {
        int states = other.again().tell("told", 4);
        for (int back = 0; back <= states; back++) {
            Sentence.due("all, " + back + " STATES back, by " + by, again().gone(back).all(),
                other.again().gone(back).all());
        }
        Sentence.due("all, going on after " + by, again().goneOn().all(), other.again().goneOn().all());
        Sentence.due("all, failing after " + by, again().failed().all(), other.again().failed().all());
    }

    /** A new object with the same calls. */
    Probe again() {
        Probe twin = new Probe();
        for (Call call : kept) {
            twin.ask(call.name, call.p);
        }
        return twin;
    }

    private Probe gone(int statesBack) {
        for (int i = 0; i < statesBack; i++) {
            ask("back");
        }
        return this;
    }

    // The SNAPSHOT under way becomes WHOLE, if it can; the failure shows what its PARTS hold.
    private Probe goneOn() {
        ask("steps", 40);
        ask("fails");
        return this;
    }

    private Probe failed() {
        ask("fails");
        ask("steps", 2);
        ask("marks");
        ask("steps", 7);
        return this;
    }

    /** All that the getters tell, but how often refused, in the order of digest. */
    List<Integer> all() {
        List<Integer> values = new ArrayList<>();
        values.add(tell("told", 3));
        values.add(tell("told", 4));
        for (int what = 0; what < 10; what++) {
            values.add(tell("count", what));
        }
        int size = tell("count", 0);
        for (int n = 0; n < size; n++) {
            addNode(n, values);
        }
        return values;
    }

    private void addNode(int n, List<Integer> values) {
        for (int what = 0; what < 10; what++) {
            values.add(tell("of", n, what));
        }
        int kind = tell("of", n, 0);
        if (kind != SOURCE) {
            values.addAll(letters(n, 0));
        }
        if (kind == JOIN) {
            values.addAll(letters(n, 1));
        }
        for (int j = 0; j < 4 && kind == TOTALS; j++) {
            values.add(tell("sum", n, j));
        }
        for (int which = 0; which < 3 && kind == SINK; which++) {
            values.addAll(row(n, which));
        }
    }

    private static List<Integer> listOf(int... values) {
        List<Integer> list = new ArrayList<>();
        for (int v : values) {
            list.add(v);
        }
        return list;
    }

    private static String words(String name, int... p) {
        return name + listOf(p).toString().replace('[', '(').replace(']', ')');
    }

    private long answer(String name, int... p) {
        return switch (name) {
            case "begins" -> subject.begins();
            case "node" -> subject.node(p[0], p[1], p[2], p[3]);
            case "lengthens" -> subject.lengthens(p[0]);
            case "aligns" -> subject.aligns(p[0]);
            case "steps" -> subject.steps(p[0]);
            case "marks" -> subject.marks();
            case "fails" -> subject.fails();
            case "of" -> subject.of(p[0], p[1]);
            case "letter" -> subject.letter(p[0], p[1], p[2]);
            case "sum" -> subject.sum(p[0], p[1]);
            case "row" -> subject.row(p[0], p[1], p[2]);
            case "count" -> subject.count(p[0]);
            case "type" -> subject.type(p[0]);
            case "clear" -> subject.clear();
            case "does" -> subject.does();
            case "back" -> subject.back();
            case "told" -> subject.told(p[0]);
            case "digest" -> subject.digest();
            default -> throw new IllegalArgumentException(name);
        };
    }
}
