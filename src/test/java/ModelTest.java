import java.util.ArrayList;
import java.util.List;
import java.util.Random;

/** Long random runs (of fixed seeds) against a second, slow program that was written from the document alone. */
public final class ModelTest {
    private static final int RUNS = 3000;
    private static final int CALLS = 250;
    private static final int[] EDGES = {
        Integer.MIN_VALUE, -100, -4, -3, -2, -1, 0, 1, 2, 3, 4, 5, 6, 7, 8, 9, 10, 11, 30, 31, 59, 60, 61, 99, 100,
        119, 120, 127, 128, Integer.MAX_VALUE
    };

    private static int wrong = 0;
    private static final int[] reached = new int[8];

    public static void main(String[] args) {
        for (int run = 0; run < RUNS && wrong < 10; run++) {
            oneRun(run);
        }
        String[] names = {"whole snapshots", "records stored", "failures with a record", "items lost",
            "faults", "orders done", "channels over room", "states back"};
        for (int i = 0; i < reached.length; i++) {
            if (reached[i] == 0) {
                wrong++;
                System.out.println("the runs never reached: " + names[i]);
            }
        }
        System.out.println(wrong == 0 ? "all answers are the model's" : wrong + " answers are not the model's");
        if (wrong != 0) {
            System.exit(1);
        }
    }

    private static void oneRun(int run) {
        Random random = new Random(run * 7919L + 17);
        BarrierStreams program = new BarrierStreams();
        Model model = new Model();
        boolean wild = random.nextInt(4) == 0;
        List<Call> calls = new ArrayList<>();
        if (!wild) {
            layOut(random, calls);
        }
        int given = 0;
        for (int i = 0; i < CALLS; i++) {
            if (given >= calls.size()) {
                calls.clear();
                given = 0;
                nextCalls(random, model, calls, wild);
            }
            Call call = calls.get(given++);
            long want = model.answer(call);
            long got;
            try {
                got = Call.ask(program, call);
            } catch (RuntimeException e) {
                wrong++;
                System.out.println("run " + run + ", call " + i + ": " + call + " threw " + e);
                return;
            }
            boolean same = got == want && program.digest() == model.digest();
            if (!same) {
                wrong++;
                System.out.println("run " + run + ", call " + i + ": " + call + " answered " + got + ", the model "
                    + want + (got == want ? " (the digests differ)" : ""));
                return;
            }
            noteReached(model, call, want);
        }
    }

    private static void noteReached(Model model, Call call, long answer) {
        World w = model.world;
        reached[0] += w.wholes > 0 ? 1 : 0;
        for (Box box : w.boxes) {
            boolean record = box.lastRecord != null && !box.lastRecord.isEmpty();
            reached[1] += record ? 1 : 0;
            reached[2] += record && call.name.equals("fails") ? 1 : 0;
            for (List<Integer> channel : box.channels) {
                reached[6] += channel.size() > 6 ? 1 : 0;
            }
        }
        reached[3] += w.lost > 0 ? 1 : 0;
        reached[4] += call.name.equals("does") && answer <= -10 ? 1 : 0;
        reached[5] += call.name.equals("does") && answer > 0 ? 1 : 0;
        reached[7] += call.name.equals("back") && answer >= 0 ? 1 : 0;
    }

    // Nets that work, with JOINS more often than chance would lay them.
    private static void layOut(Random random, List<Call> calls) {
        int size = 2 + random.nextInt(7);
        List<Integer> kinds = new ArrayList<>();
        for (int n = 0; n < size; n++) {
            List<Integer> feeders = new ArrayList<>();
            for (int m = 0; m < n; m++) {
                if (kinds.get(m) != 5) {
                    feeders.add(m);
                }
            }
            int kind = n == 0 ? 0 : n == size - 1 ? 5 : random.nextInt(3) == 0 ? 4 : random.nextInt(6);
            int a = kind == 0 ? 1 + random.nextInt(random.nextBoolean() ? 2 : 9) : pickLate(random, feeders);
            int b = kind == 4 ? pickLate(random, feeders) : -1;
            int k = kind == 0 || kind == 1 ? random.nextInt(100) : kind == 2 ? 1 + random.nextInt(9) : 0;
            kinds.add(kind);
            calls.add(new Call("node", kind, a, b, k));
        }
        calls.add(new Call("lengthens", random.nextBoolean() ? 30 : random.nextInt(31)));
        calls.add(new Call("aligns", random.nextInt(2)));
    }

    private static int pickLate(Random random, List<Integer> feeders) {
        int pick = random.nextInt(feeders.size());
        return feeders.get(random.nextBoolean() ? feeders.size() - 1 : pick);
    }

    private static void nextCalls(Random random, Model model, List<Call> calls, boolean wild) {
        int dice = random.nextInt(100);
        if (dice < 35) {
            calls.add(new Call("steps", random.nextInt(5) == 0 ? 1 + random.nextInt(60) : 1 + random.nextInt(6)));
        } else if (dice < 50) {
            calls.add(new Call("marks"));
        } else if (dice < 56) {
            calls.add(new Call("fails"));
        } else if (dice < 60) {
            calls.add(new Call("aligns", random.nextInt(2)));
        } else if (dice < 63) {
            calls.add(new Call("back"));
        } else if (dice < 68) {
            typeText(random, calls);
        } else if (dice < 70) {
            calls.add(new Call("lengthens", random.nextInt(31)));
        } else if (dice < 71) {
            calls.add(new Call("begins"));
            layOut(random, calls);
        } else if (dice < 74 && model.world.t == 0) {
            calls.add(new Call("node", 4, random.nextInt(8), random.nextInt(8), 0));
        } else if (dice < 90) {
            look(random, model, calls);
        } else if (wild || random.nextInt(10) == 0) {
            String name = Call.NAMES[random.nextInt(Call.NAMES.length)];
            calls.add(new Call(name, edge(random), edge(random), edge(random), edge(random)));
        } else {
            calls.add(new Call("steps", edge(random)));
        }
    }

    private static void look(Random random, Model model, List<Call> calls) {
        int n = random.nextInt(model.world.boxes.size() + 1);
        switch (random.nextInt(6)) {
            case 0 -> calls.add(new Call("of", n, random.nextInt(11)));
            case 1 -> calls.add(new Call("letter", n, random.nextInt(2), random.nextInt(9) - 1));
            case 2 -> calls.add(new Call("sum", n, random.nextInt(5)));
            case 3 -> calls.add(new Call("row", n, random.nextInt(4), random.nextInt(125) - 1));
            case 4 -> calls.add(new Call("count", random.nextInt(11)));
            default -> calls.add(new Call("told", random.nextInt(6)));
        }
    }

    private static int edge(Random random) {
        return EDGES[random.nextInt(EDGES.length)];
    }

    private static void typeText(Random random, List<Call> calls) {
        StringBuilder text = new StringBuilder();
        int orders = 1 + random.nextInt(5);
        for (int i = 0; i < orders; i++) {
            text.append(blanks(random));
            switch (random.nextInt(8)) {
                case 0, 1 -> text.append("n").append(blanks(random)).append(random.nextInt(7)).append(" ")
                    .append(maybeNone(random)).append(" ").append(maybeNone(random)).append(" ")
                    .append(maybeNone(random));
                case 2, 3 -> text.append("s").append(blanks(random)).append(random.nextInt(64));
                case 4 -> text.append("m");
                case 5 -> text.append("f");
                case 6 -> text.append("a").append(blanks(random)).append(random.nextInt(3));
                default -> text.append("l").append(blanks(random)).append(random.nextInt(35));
            }
            text.append(blanks(random)).append(";");
        }
        text.append(blanks(random));
        if (random.nextInt(3) == 0) {
            spoil(random, text);
        }
        calls.add(new Call("clear"));
        for (int i = 0; i < text.length(); i++) {
            calls.add(new Call("type", text.charAt(i)));
        }
        calls.add(new Call("does"));
    }

    private static void spoil(Random random, StringBuilder text) {
        String signs = "nsmfal;- 0123456789x";
        int at = random.nextInt(text.length());
        switch (random.nextInt(4)) {
            case 0 -> text.setLength(at);
            case 1 -> text.deleteCharAt(at);
            case 2 -> text.insert(at, signs.charAt(random.nextInt(signs.length())));
            default -> text.setCharAt(at, signs.charAt(random.nextInt(signs.length())));
        }
    }

    private static String blanks(Random random) {
        return " ".repeat(random.nextInt(4) / 2);
    }

    private static String maybeNone(Random random) {
        return random.nextInt(3) == 0 ? "-" : String.valueOf(random.nextInt(random.nextBoolean() ? 4 : 12));
    }

    private static final class Call {
        static final String[] NAMES = {
            "begins", "node", "lengthens", "aligns", "steps", "marks", "fails", "of", "letter", "sum", "row", "count",
            "type", "clear", "does", "back", "told", "digest"
        };
        final String name;
        final int[] p = new int[4];

        Call(String name, int... given) {
            this.name = name;
            System.arraycopy(given, 0, p, 0, given.length);
        }

        static long ask(BarrierStreams x, Call c) {
            int[] p = c.p;
            return switch (c.name) {
                case "begins" -> x.begins();
                case "node" -> x.node(p[0], p[1], p[2], p[3]);
                case "lengthens" -> x.lengthens(p[0]);
                case "aligns" -> x.aligns(p[0]);
                case "steps" -> x.steps(p[0]);
                case "marks" -> x.marks();
                case "fails" -> x.fails();
                case "of" -> x.of(p[0], p[1]);
                case "letter" -> x.letter(p[0], p[1], p[2]);
                case "sum" -> x.sum(p[0], p[1]);
                case "row" -> x.row(p[0], p[1], p[2]);
                case "count" -> x.count(p[0]);
                case "type" -> x.type(p[0]);
                case "clear" -> x.clear();
                case "does" -> x.does();
                case "back" -> x.back();
                case "told" -> x.told(p[0]);
                default -> x.digest();
            };
        }

        @Override
        public String toString() {
            return name + java.util.Arrays.toString(p);
        }
    }

    /** One NODE of the model. */
    private static final class Box {
        int kind, a, b, k, position, turn;
        boolean toMark, partWhole;
        boolean[] blocked = new boolean[2];
        int records = -1;
        long[] sums = new long[4];
        List<List<Integer>> channels = new ArrayList<>();
        List<Integer> open = new ArrayList<>(), pending = new ArrayList<>(), output = new ArrayList<>();
        List<Integer> record = new ArrayList<>();
        // the PART of the SNAPSHOT under way; null: its kind has none, or nothing is stored
        Integer partPosition;
        long[] partSums;
        List<Integer> partRecord;
        int partRecordIn = -1, partChanged;
        Integer lastPosition;
        long[] lastSums;
        List<Integer> lastRecord;
        int lastRecordIn = -1, lastChanged;

        Box copy() {
            Box c = new Box();
            c.kind = kind;
            c.a = a;
            c.b = b;
            c.k = k;
            c.position = position;
            c.turn = turn;
            c.toMark = toMark;
            c.partWhole = partWhole;
            c.blocked = blocked.clone();
            c.records = records;
            c.sums = sums.clone();
            for (List<Integer> channel : channels) {
                c.channels.add(new ArrayList<>(channel));
            }
            c.open.addAll(open);
            c.pending.addAll(pending);
            c.output.addAll(output);
            c.record.addAll(record);
            c.partPosition = partPosition;
            c.partSums = partSums == null ? null : partSums.clone();
            c.partRecord = partRecord == null ? null : new ArrayList<>(partRecord);
            c.partRecordIn = partRecordIn;
            c.partChanged = partChanged;
            c.lastPosition = lastPosition;
            c.lastSums = lastSums == null ? null : lastSums.clone();
            c.lastRecord = lastRecord == null ? null : new ArrayList<>(lastRecord);
            c.lastRecordIn = lastRecordIn;
            c.lastChanged = lastChanged;
            return c;
        }

        void forgetPart() {
            partWhole = false;
            partPosition = null;
            partSums = null;
            partRecord = null;
            partRecordIn = -1;
            partChanged = 0;
        }
    }

    /** All that a STATE of the model holds. */
    private static final class World {
        List<Box> boxes = new ArrayList<>();
        int t, length = 20, wholes, fails, lost;
        boolean underWay, aligned = true;

        World copy() {
            World c = new World();
            for (Box box : boxes) {
                c.boxes.add(box.copy());
            }
            c.t = t;
            c.length = length;
            c.wholes = wholes;
            c.fails = fails;
            c.lost = lost;
            c.underWay = underWay;
            c.aligned = aligned;
            return c;
        }

        List<List<Integer>> outs(int n) {
            List<List<Integer>> outs = new ArrayList<>();
            for (Box box : boxes) {
                if (box.kind != 0 && box.a == n) {
                    outs.add(box.channels.get(0));
                }
                if (box.kind == 4 && box.b == n) {
                    outs.add(box.channels.get(1));
                }
            }
            return outs;
        }

        boolean room(int n) {
            return outs(n).stream().allMatch(c -> c.size() < 6);
        }

        void send(int n, int letter) {
            outs(n).forEach(c -> c.add(letter));
        }

        void step() {
            for (int n = 0; n < boxes.size(); n++) {
                if (room(n)) {
                    act(n, boxes.get(n));
                }
            }
            if (underWay && boxes.stream().allMatch(x -> x.partWhole)) {
                becomeWhole();
            }
            t++;
        }

        void becomeWhole() {
            wholes++;
            underWay = false;
            for (Box x : boxes) {
                x.lastPosition = x.partPosition;
                x.lastSums = x.partSums;
                x.lastRecord = x.partRecord;
                x.lastRecordIn = x.partRecordIn;
                x.lastChanged = x.partChanged;
                x.forgetPart();
                for (int item : x.pending) {
                    if (x.output.size() == 100) {
                        lost++;
                    } else {
                        x.output.add(item);
                    }
                }
                x.pending.clear();
            }
        }

        void act(int n, Box x) {
            if (x.kind == 0) {
                if (t % x.a == 0 && x.toMark) {
                    send(n, 100);
                    x.toMark = false;
                    x.partPosition = x.position;
                    x.partWhole = true;
                } else if (t % x.a == 0 && x.position < length) {
                    int i = x.position++;
                    send(n, (x.k * 7 + i * i + i * 3) % 100);
                }
                return;
            }
            int in = -1;
            for (int offset = 0; offset < x.channels.size() && in < 0; offset++) {
                int tried = (x.turn + offset) % 2;
                if (!x.channels.get(tried).isEmpty() && !x.blocked[tried]) {
                    in = tried;
                }
            }
            if (in < 0) {
                return;
            }
            int letter = x.channels.get(in).remove(0);
            if (x.kind == 4) {
                x.turn = in == 0 ? 1 : 0;
            }
            if (letter == 100) {
                barrier(n, x, in);
            } else {
                item(n, x, in, letter);
            }
        }

        void item(int n, Box x, int in, int item) {
            if (x.kind == 1) {
                send(n, (item + x.k) % 100);
            } else if (x.kind == 2) {
                if (item % x.k != 0) {
                    send(n, item);
                }
            } else if (x.kind == 3) {
                x.sums[item % 4] += item;
                send(n, (int) (x.sums[item % 4] % 100));
            } else if (x.kind == 4) {
                if (x.records == in) {
                    x.record.add(item);
                }
                send(n, item);
            } else {
                x.open.add(item);
            }
        }

        void barrier(int n, Box x, int in) {
            if (x.kind == 5) {
                x.pending.addAll(x.open);
                x.open.clear();
                x.partWhole = true;
            } else if (x.kind == 4 && aligned) {
                if (!x.blocked[0] && !x.blocked[1]) {
                    x.blocked[in] = true;
                } else {
                    x.blocked = new boolean[2];
                    send(n, 100);
                    x.partWhole = true;
                }
            } else if (x.kind == 4) {
                if (x.records < 0) {
                    send(n, 100);
                    x.records = in == 0 ? 1 : 0;
                    x.record.clear();
                } else {
                    x.partRecordIn = x.records;
                    x.partRecord = new ArrayList<>(x.record);
                    x.records = -1;
                    x.partWhole = true;
                }
            } else {
                send(n, 100);
                x.partWhole = true;
                if (x.kind == 3) {
                    x.partSums = x.sums.clone();
                    for (int j = 0; j < 4; j++) {
                        x.partChanged += x.sums[j] != (x.lastSums == null ? 0 : x.lastSums[j]) ? 1 : 0;
                    }
                }
            }
        }

        void fail() {
            fails++;
            underWay = false;
            for (Box x : boxes) {
                x.toMark = false;
                x.blocked = new boolean[2];
                x.records = -1;
                x.turn = 0;
                x.open.clear();
                x.pending.clear();
                x.forgetPart();
                x.position = x.lastPosition == null ? 0 : x.lastPosition;
                x.sums = x.lastSums == null ? new long[4] : x.lastSums.clone();
                x.channels.forEach(List::clear);
                if (x.lastRecordIn >= 0) {
                    x.channels.get(x.lastRecordIn).addAll(x.lastRecord);
                }
            }
        }

        int count(int what) {
            switch (what) {
                case 0: return boxes.size();
                case 1: return t;
                case 2: return length;
                case 3: return wholes;
                case 4: return underWay ? 1 : 0;
                case 5: return aligned ? 1 : 0;
                case 6:
                    int numbers = 0;
                    for (Box x : boxes) {
                        numbers += (x.lastPosition == null ? 0 : 1) + x.lastChanged
                            + (x.lastRecord == null ? 0 : x.lastRecord.size());
                    }
                    return numbers;
                case 7: return fails;
                case 8: return lost;
                case 9: return boxes.stream().mapToInt(x -> x.channels.stream().mapToInt(List::size).sum()).sum();
                default: return -2;
            }
        }

        int of(int n, int what) {
            if (n < 0 || n >= boxes.size()) {
                return -2;
            }
            Box x = boxes.get(n);
            return switch (what) {
                case 0 -> x.kind;
                case 1 -> x.a;
                case 2 -> x.b;
                case 3 -> x.k;
                case 4 -> x.kind == 0 ? x.position : -1;
                case 5 -> x.toMark ? 1 : 0;
                case 6 -> x.kind == 4 ? x.turn : -1;
                case 7 -> x.blocked[0] ? 0 : x.blocked[1] ? 1 : -1;
                case 8 -> x.records;
                case 9 -> underWay && x.partWhole ? 1 : 0;
                default -> -2;
            };
        }

        boolean feeds(int n) {
            return n >= 0 && n < boxes.size() && boxes.get(n).kind != 5;
        }

        boolean badNode(int kind, int a, int b, int k) {
            if (kind < 0 || kind > 5) {
                return true;
            }
            boolean aGood = kind == 0 ? a >= 1 && a <= 9 : feeds(a);
            boolean bGood = kind == 4 ? feeds(b) : b == -1;
            int least = kind == 2 ? 1 : 0;
            int most = kind <= 2 ? 99 : 0;
            return !aGood || !bGood || k < least || k > most;
        }

        // The answer of one of the calls that a text can order; the works change only if it is no refusal.
        int order(String name, int... p) {
            switch (name) {
                case "node":
                    if (badNode(p[0], p[1], p[2], p[3])) {
                        return -2;
                    }
                    if (t != 0) {
                        return -3;
                    }
                    long joins = boxes.stream().filter(x -> x.kind == 4).count();
                    if (boxes.size() == 8 || joins == 2 && p[0] == 4) {
                        return -4;
                    }
                    Box box = new Box();
                    box.kind = p[0];
                    box.a = p[1];
                    box.b = p[2];
                    box.k = p[3];
                    for (int in = 0; in < (p[0] == 0 ? 0 : p[0] == 4 ? 2 : 1); in++) {
                        box.channels.add(new ArrayList<>());
                    }
                    boxes.add(box);
                    return boxes.size() - 1;
                case "lengthens":
                    if (p[0] < 0 || p[0] > 30) {
                        return -2;
                    }
                    int was = length;
                    length = p[0];
                    return was;
                case "aligns":
                    if (p[0] < 0 || p[0] > 1) {
                        return -2;
                    }
                    if (underWay) {
                        return -3;
                    }
                    int before = aligned ? 1 : 0;
                    aligned = p[0] == 1;
                    return before;
                case "steps":
                    if (p[0] < 1 || p[0] > 60) {
                        return -2;
                    }
                    for (int i = 0; i < p[0]; i++) {
                        step();
                    }
                    return t;
                case "marks":
                    if (underWay) {
                        return -3;
                    }
                    underWay = true;
                    for (Box x : boxes) {
                        x.toMark = x.kind == 0;
                        x.forgetPart();
                    }
                    return wholes + 1;
                default:
                    fail();
                    return wholes;
            }
        }
    }

    private static final class Model {
        World world = new World();
        final List<World> states = new ArrayList<>();
        final int[] refused = new int[3];
        final StringBuilder text = new StringBuilder();

        long answer(Call call) {
            if (call.name.equals("digest")) {
                return digest();
            }
            int answer = unnoted(call);
            boolean refusable = !call.name.equals("does");
            if (refusable && answer <= -2 && answer >= -4) {
                refused[-2 - answer]++;
            }
            return answer;
        }

        private int unnoted(Call c) {
            int[] p = c.p;
            switch (c.name) {
                case "begins": {
                    keep(world.copy());
                    int n = world.boxes.size();
                    world = new World();
                    return n;
                }
                case "node", "lengthens", "aligns", "steps", "marks", "fails": {
                    World before = world.copy();
                    int answer = world.order(c.name, p);
                    if (answer >= 0) {
                        keep(before);
                    }
                    return answer;
                }
                case "of": return world.of(p[0], p[1]);
                case "letter": return letter(p[0], p[1], p[2]);
                case "sum": {
                    Box x = box(p[0]);
                    return x == null || x.kind != 3 || p[1] < 0 || p[1] > 3 ? -2 : (int) x.sums[p[1]];
                }
                case "row": {
                    Box x = box(p[0]);
                    if (x == null || x.kind != 5 || p[1] < 0 || p[1] > 2 || p[2] < 0) {
                        return -2;
                    }
                    return item(List.of(x.open, x.pending, x.output).get(p[1]), p[2]);
                }
                case "count": return world.count(p[0]);
                case "type":
                    if (p[0] < 0 || p[0] > 127) {
                        return -2;
                    }
                    if (text.length() == 120) {
                        return -4;
                    }
                    text.append((char) p[0]);
                    return text.length();
                case "clear": {
                    int n = text.length();
                    text.setLength(0);
                    return n;
                }
                case "does": return does();
                case "back":
                    if (states.isEmpty()) {
                        return -3;
                    }
                    world = states.remove(states.size() - 1);
                    return states.size();
                default: return told(p[0]);
            }
        }

        private Box box(int n) {
            return n < 0 || n >= world.boxes.size() ? null : world.boxes.get(n);
        }

        private int letter(int n, int in, int i) {
            Box x = box(n);
            return x == null || in < 0 || in >= x.channels.size() || i < 0 ? -2 : item(x.channels.get(in), i);
        }

        private static int item(List<Integer> row, int i) {
            return i < row.size() ? row.get(i) : -1;
        }

        private void keep(World before) {
            states.add(before);
            if (states.size() > 5) {
                states.remove(0);
            }
        }

        private int told(int what) {
            if (what < 0 || what > 4) {
                return -2;
            }
            return what < 3 ? refused[what] : what == 3 ? text.length() : states.size();
        }

        // A byte can stand at its place if some text goes on from there: so all places are tried, one after another.
        private int fault() {
            String all = text.toString();
            for (int end = 1; end <= all.length(); end++) {
                if (!canGoOn(all.substring(0, end))) {
                    return end - 1;
                }
            }
            return all.matches("( *" + ORDER + ")+ *") ? -1 : all.length();
        }

        private static final String NUMBER = "[0-9]{1,2}";
        private static final String MAYBE = "(" + NUMBER + "|-)";
        // Between two numbers a blank must stand, but not beside a -.
        private static final String GAP = "( +|(?<=[^0-9])|(?=[^0-9]))";
        private static final String ORDER = "(n *" + NUMBER + GAP + " *" + MAYBE + GAP + " *" + MAYBE + GAP + " *"
            + MAYBE + "|[sal] *" + NUMBER + "|[mf]) *;";

        private static boolean canGoOn(String start) {
            String[] ends = {"", ";", "0;", " 0;", "0 0 0 0;", " 0 0 0;", " 0 0;", " 0 0 0 0;", "m;"};
            for (String end : ends) {
                if ((start + end).matches("( *" + ORDER + ")* *")) {
                    return true;
                }
            }
            return false;
        }

        private int does() {
            int fault = fault();
            if (fault >= 0) {
                return -10 - fault;
            }
            keep(world.copy());
            int done = 0;
            for (String order : text.toString().split(";")) {
                String trimmed = order.trim();
                if (!trimmed.isEmpty()) {
                    done += world.order(nameOf(trimmed.charAt(0)), numbersOf(trimmed)) >= 0 ? 1 : 0;
                }
            }
            return done;
        }

        private static String nameOf(char sign) {
            return switch (sign) {
                case 'n' -> "node";
                case 's' -> "steps";
                case 'm' -> "marks";
                case 'f' -> "fails";
                case 'a' -> "aligns";
                default -> "lengthens";
            };
        }

        private static int[] numbersOf(String order) {
            String spaced = order.substring(1).replace("-", " -1 ").trim();
            if (spaced.isEmpty()) {
                return new int[0];
            }
            String[] words = spaced.split(" +");
            int[] numbers = new int[words.length];
            for (int i = 0; i < words.length; i++) {
                numbers[i] = Integer.parseInt(words[i]);
            }
            return numbers;
        }

        long digest() {
            List<Long> all = new ArrayList<>();
            for (int what = 0; what < 5; what++) {
                all.add((long) told(what));
            }
            for (int what = 0; what < 10; what++) {
                all.add((long) world.count(what));
            }
            for (int n = 0; n < world.boxes.size(); n++) {
                Box x = world.boxes.get(n);
                for (int what = 0; what < 10; what++) {
                    all.add((long) world.of(n, what));
                }
                x.channels.forEach(c -> c.forEach(v -> all.add((long) v)));
                for (int j = 0; j < 4 && x.kind == 3; j++) {
                    all.add(x.sums[j]);
                }
                x.open.forEach(v -> all.add((long) v));
                x.pending.forEach(v -> all.add((long) v));
                x.output.forEach(v -> all.add((long) v));
            }
            long h = 2545;
            for (long v : all) {
                h = 31 * h + v;
            }
            return h;
        }
    }
}
