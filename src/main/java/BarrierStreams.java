/**
 * Streams with barriers: sources, operators and sinks tied by channels, snapshots by barriers, failures that go
 * back to the last whole snapshot. The words in capitals are those of the document (DOC.md).
 *
 * <p>All rows are made with the object and used again, so that no call makes anything.
 */
public final class BarrierStreams {
    public static final int NONE = -1, BAD = -2, NO = -3, FULL = -4, BARRIER = 100;

    private static final int FINE = 0;

    private static final int SOURCE = 0, ADDER = 1, SIEVE = 2, TOTALS = 3, JOIN = 4, SINK = 5;

    private static final int NODES_MOST = 8, JOINS_MOST = 2, INS_MOST = 2;
    private static final int CHANNEL_ROOM = 6;
    private static final int ITEM_KINDS = 100;
    private static final int SUMS = 4;
    private static final int PERIOD_MOST = 9, K_MOST = 99;
    private static final int LENGTH_MOST = 30, LENGTH_AT_FIRST = 20;
    private static final int STEPS_MOST = 60;
    private static final int OUTPUT_MOST = 100;
    private static final int STATES_MOST = 5;
    private static final int REFUSALS = 3;

    // A JOIN at most doubles what a SOURCE of 30 ITEMS sends, and only one JOIN can stand ahead of another: so an
    // IN of a JOIN never sees more than 60 ITEMS, and a SINK behind both JOINS never more than 120. A failure
    // repeats only ITEMS that it took away, so these bounds outlast it.
    private static final int RECORD_MOST = 60, SINK_ROW_MOST = 120;

    private static final int TEXT_MOST = 120, BYTE_MOST = 127;
    private static final int ORDERS_MOST = TEXT_MOST / 2, ORDER_CELLS = 5;
    private static final int FAULT_BASE = -10;
    private static final char NODE_ORDER = 'n', STEPS_ORDER = 's', MARK_ORDER = 'm', FAIL_ORDER = 'f';
    private static final char ALIGN_ORDER = 'a', LENGTH_ORDER = 'l', ORDER_END = ';', NONE_SIGN = '-', BLANK = ' ';

    private static final int DIGEST_START = 2545, DIGEST_FACTOR = 31;
    private static final int NODE_FACTS = 10, TALLIES = 10, TOLD_FACTS = 5, SINK_ROWS = 3;

    private final Works works;
    private final Works[] states;
    private int statesKept;
    private final Text text;
    private final int[] refused;

    public BarrierStreams() {
        works = new Works();
        states = new Works[STATES_MOST];
        for (int i = 0; i < STATES_MOST; i++) {
            states[i] = new Works();
        }
        text = new Text();
        refused = new int[REFUSALS];
    }

    // ---- the works

    public int begins() {
        int nodesBefore = works.size;
        keepState();
        works.startAnew();
        return nodesBefore;
    }

    public int node(int kind, int a, int b, int k) {
        return order(NODE_ORDER, kind, a, b, k);
    }

    public int lengthens(int n) {
        return order(LENGTH_ORDER, n, NONE, NONE, NONE);
    }

    public int aligns(int v) {
        return order(ALIGN_ORDER, v, NONE, NONE, NONE);
    }

    public int steps(int n) {
        return order(STEPS_ORDER, n, NONE, NONE, NONE);
    }

    public int marks() {
        return order(MARK_ORDER, NONE, NONE, NONE, NONE);
    }

    public int fails() {
        return order(FAIL_ORDER, NONE, NONE, NONE, NONE);
    }

    // ---- told

    public int of(int n, int what) {
        if (!works.hasNode(n) || what < 0 || what >= NODE_FACTS) {
            return refuse(BAD);
        }
        return works.nodes[n].fact(what);
    }

    public int letter(int n, int in, int i) {
        if (!works.hasNode(n) || !works.nodes[n].hasIn(in) || i < 0) {
            return refuse(BAD);
        }
        return works.nodes[n].channel(in).at(i);
    }

    public int sum(int n, int j) {
        if (!works.hasNode(n) || works.nodes[n].kind != TOTALS || j < 0 || j >= SUMS) {
            return refuse(BAD);
        }
        return works.nodes[n].sums[j];
    }

    public int row(int n, int which, int i) {
        if (!works.hasNode(n) || works.nodes[n].kind != SINK || which < 0 || which >= SINK_ROWS || i < 0) {
            return refuse(BAD);
        }
        return works.nodes[n].sinkRow(which).at(i);
    }

    public int count(int what) {
        if (what < 0 || what >= TALLIES) {
            return refuse(BAD);
        }
        return works.tally(what);
    }

    // ---- texts

    public int type(int c) {
        if (c < 0 || c > BYTE_MOST) {
            return refuse(BAD);
        }
        if (text.length >= TEXT_MOST) {
            return refuse(FULL);
        }
        text.put(c);
        return text.length;
    }

    public int clear() {
        int lengthBefore = text.length;
        text.length = 0;
        return lengthBefore;
    }

    public int does() {
        int fault = text.read();
        if (fault != NONE) {
            return FAULT_BASE - fault;
        }
        keepState();
        int done = 0;
        for (int i = 0; i < text.orders; i++) {
            int sign = text.sign(i);
            int p = text.number(i, 0);
            int a = text.number(i, 1);
            int b = text.number(i, 2);
            int k = text.number(i, 3);
            if (works.refusal(sign, p, a, b, k) == FINE) {
                works.carryOut(sign, p, a, b, k);
                done++;
            }
        }
        return done;
    }

    public int back() {
        if (statesKept == 0) {
            return refuse(NO);
        }
        statesKept--;
        works.become(states[statesKept]);
        return statesKept;
    }

    public int told(int what) {
        if (what < 0 || what >= TOLD_FACTS) {
            return refuse(BAD);
        }
        return toldFact(what);
    }

    public long digest() {
        long h = DIGEST_START;
        for (int what = 0; what < TOLD_FACTS; what++) {
            h = DIGEST_FACTOR * h + toldFact(what);
        }
        for (int what = 0; what < TALLIES; what++) {
            h = DIGEST_FACTOR * h + works.tally(what);
        }
        for (int n = 0; n < works.size; n++) {
            h = works.nodes[n].digestFrom(h);
        }
        return h;
    }

    private int order(int sign, int p, int a, int b, int k) {
        int refusal = works.refusal(sign, p, a, b, k);
        if (refusal != FINE) {
            return refuse(refusal);
        }
        keepState();
        return works.carryOut(sign, p, a, b, k);
    }

    private int refuse(int refusal) {
        int kind = BAD - refusal;
        if (kind >= 0 && kind < REFUSALS) {
            refused[kind]++;
        }
        return refusal;
    }

    private int toldFact(int what) {
        if (what >= 0 && what < REFUSALS) {
            return refused[what];
        }
        return what == REFUSALS ? text.length : statesKept;
    }

    private void keepState() {
        if (statesKept == STATES_MOST) {
            dropOldestState();
        }
        states[statesKept].become(works);
        statesKept++;
    }

    // The lost STATE's rows go to the end of the array, to be filled again.
    private void dropOldestState() {
        Works oldest = states[0];
        for (int i = 1; i < STATES_MOST; i++) {
            states[i - 1] = states[i];
        }
        states[STATES_MOST - 1] = oldest;
        statesKept = STATES_MOST - 1;
    }

    /** LETTERS or ITEMS in their order, the first one first out. */
    private static final class Row {
        final int[] letters;
        int size;

        Row(int most) {
            letters = new int[most];
        }

        int at(int i) {
            return i >= 0 && i < size ? letters[i] : NONE;
        }

        void put(int letter) {
            if (size < letters.length) {
                letters[size] = letter;
                size++;
            }
        }

        int takeFirst() {
            if (size == 0) {
                return NONE;
            }
            int first = letters[0];
            size--;
            System.arraycopy(letters, 1, letters, 0, size);
            return first;
        }

        /** Puts all of the other row behind this one; answers how many found no place. */
        int append(Row other) {
            int free = letters.length - size;
            int fitting = other.size < free ? other.size : free;
            System.arraycopy(other.letters, 0, letters, size, fitting);
            size += fitting;
            return other.size - fitting;
        }

        void drop() {
            size = 0;
        }

        void become(Row other) {
            size = other.size < letters.length ? other.size : letters.length;
            System.arraycopy(other.letters, 0, letters, 0, size);
        }

        long digestFrom(long start) {
            long h = start;
            for (int i = 0; i < size; i++) {
                h = DIGEST_FACTOR * h + letters[i];
            }
            return h;
        }
    }

    /** What a SNAPSHOT has of one NODE; a new one is as if nothing had ever been stored. */
    private static final class Part {
        int position;
        // All sums as they were, also those that are not stored: a failure and the next SNAPSHOT need them.
        final int[] sums = new int[SUMS];
        final Row record = new Row(RECORD_MOST);
        int recordedIn = NONE;
        int numbers;

        void startAnew() {
            position = 0;
            for (int j = 0; j < SUMS; j++) {
                sums[j] = 0;
            }
            record.drop();
            recordedIn = NONE;
            numbers = 0;
        }

        void become(Part other) {
            position = other.position;
            System.arraycopy(other.sums, 0, sums, 0, SUMS);
            record.become(other.record);
            recordedIn = other.recordedIn;
            numbers = other.numbers;
        }
    }

    private static final class Node {
        int kind, a, b, k;
        int position;
        boolean hasToMark;
        int turn;
        int blocked = NONE;
        int recording = NONE;
        boolean partIsWhole;
        final int[] sums = new int[SUMS];
        final Row in0 = new Row(RECORD_MOST);
        final Row in1 = new Row(RECORD_MOST);
        final Row open = new Row(SINK_ROW_MOST);
        final Row pending = new Row(SINK_ROW_MOST);
        final Row output = new Row(OUTPUT_MOST);
        // That of the SNAPSHOT under way, and that of the last WHOLE one.
        Part part = new Part();
        Part lastPart = new Part();

        void start(int newKind, int newA, int newB, int newK) {
            kind = newKind;
            a = newA;
            b = newB;
            k = newK;
            part.startAnew();
            lastPart.startAnew();
            output.drop();
            goBack();
        }

        /** Makes all as in the last WHOLE SNAPSHOT, but what is put out already. */
        void goBack() {
            hasToMark = false;
            turn = 0;
            blocked = NONE;
            recording = NONE;
            partIsWhole = false;
            open.drop();
            pending.drop();
            position = lastPart.position;
            System.arraycopy(lastPart.sums, 0, sums, 0, SUMS);
            in0.drop();
            in1.drop();
            if (lastPart.recordedIn != NONE) {
                channel(lastPart.recordedIn).become(lastPart.record);
            }
        }

        void become(Node other) {
            kind = other.kind;
            a = other.a;
            b = other.b;
            k = other.k;
            position = other.position;
            hasToMark = other.hasToMark;
            turn = other.turn;
            blocked = other.blocked;
            recording = other.recording;
            partIsWhole = other.partIsWhole;
            System.arraycopy(other.sums, 0, sums, 0, SUMS);
            in0.become(other.in0);
            in1.become(other.in1);
            open.become(other.open);
            pending.become(other.pending);
            output.become(other.output);
            part.become(other.part);
            lastPart.become(other.lastPart);
        }

        boolean hasIn(int in) {
            return in == 0 && kind != SOURCE || in == 1 && kind == JOIN;
        }

        Row channel(int in) {
            return in == 1 ? in1 : in0;
        }

        boolean isFedBy(int n, int in) {
            return in == 0 ? kind != SOURCE && a == n : kind == JOIN && b == n;
        }

        Row sinkRow(int which) {
            if (which == 0) {
                return open;
            }
            return which == 1 ? pending : output;
        }

        int fact(int what) {
            switch (what) {
                case 0: return kind;
                case 1: return a;
                case 2: return b;
                case 3: return k;
                case 4: return kind == SOURCE ? position : NONE;
                case 5: return hasToMark ? 1 : 0;
                case 6: return kind == JOIN ? turn : NONE;
                case 7: return blocked;
                case 8: return recording;
                default: return partIsWhole ? 1 : 0;
            }
        }

        /** ITEM POSITION of a SOURCE. */
        int itemHere() {
            return (k * 7 + position * position + position * 3) % ITEM_KINDS;
        }

        /** The IN whose first LETTER is to be taken next; NONE: there is none. */
        int inToTake() {
            if (kind != JOIN) {
                return in0.size > 0 ? 0 : NONE;
            }
            if (canTakeFrom(turn)) {
                return turn;
            }
            return canTakeFrom(1 - turn) ? 1 - turn : NONE;
        }

        boolean canTakeFrom(int in) {
            return in != blocked && channel(in).size > 0;
        }

        int take(int in) {
            if (kind == JOIN) {
                turn = 1 - in;
            }
            return channel(in).takeFirst();
        }

        /** What is to be SENT for an ITEM from an IN; NONE: nothing. */
        int meetItem(int in, int item) {
            switch (kind) {
                case ADDER:
                    return (item + k) % ITEM_KINDS;
                case SIEVE:
                    return k > 0 && item % k != 0 ? item : NONE;
                case TOTALS:
                    int j = Math.floorMod(item, SUMS);
                    sums[j] += item;
                    return sums[j] % ITEM_KINDS;
                case JOIN:
                    if (in == recording) {
                        part.record.put(item);
                    }
                    return item;
                default:
                    open.put(item);
                    return NONE;
            }
        }

        /** What is to be SENT for THE BARRIER from an IN; NONE: nothing. */
        int meetBarrier(int in, boolean aligned) {
            if (kind == JOIN) {
                return aligned ? meetAligned(in) : meetRecording(in);
            }
            if (kind == SINK) {
                pending.append(open);
                open.drop();
            }
            completePart(kind == TOTALS ? storeSums() : 0);
            return BARRIER;
        }

        int meetAligned(int in) {
            if (blocked == NONE) {
                blocked = in;
                return NONE;
            }
            blocked = NONE;
            part.recordedIn = NONE;
            completePart(0);
            return BARRIER;
        }

        int meetRecording(int in) {
            if (recording == NONE) {
                recording = 1 - in;
                part.record.drop();
                return BARRIER;
            }
            part.recordedIn = recording;
            recording = NONE;
            completePart(part.record.size);
            return NONE;
        }

        void markPosition() {
            hasToMark = false;
            part.position = position;
            completePart(1);
        }

        /** Answers how many sums are other than in the last WHOLE SNAPSHOT. */
        int storeSums() {
            int changed = 0;
            for (int j = 0; j < SUMS; j++) {
                part.sums[j] = sums[j];
                if (sums[j] != lastPart.sums[j]) {
                    changed++;
                }
            }
            return changed;
        }

        void completePart(int numbers) {
            part.numbers = numbers;
            partIsWhole = true;
        }

        /** Its SNAPSHOT became WHOLE; answers how many ITEMS were LOST. */
        int settlePart() {
            Part former = lastPart;
            lastPart = part;
            part = former;
            partIsWhole = false;
            int lost = output.append(pending);
            pending.drop();
            return lost;
        }

        long digestFrom(long start) {
            long h = start;
            for (int what = 0; what < NODE_FACTS; what++) {
                h = DIGEST_FACTOR * h + fact(what);
            }
            for (int in = 0; in < INS_MOST; in++) {
                if (hasIn(in)) {
                    h = channel(in).digestFrom(h);
                }
            }
            if (kind == TOTALS) {
                for (int j = 0; j < SUMS; j++) {
                    h = DIGEST_FACTOR * h + sums[j];
                }
            }
            if (kind == SINK) {
                for (int which = 0; which < SINK_ROWS; which++) {
                    h = sinkRow(which).digestFrom(h);
                }
            }
            return h;
        }
    }

    /** All that a STATE holds. */
    private static final class Works {
        final Node[] nodes = new Node[NODES_MOST];
        int size;
        int joins;
        int time;
        int length;
        int wholeSnapshots;
        boolean underWay;
        boolean aligned;
        int failures;
        int lost;

        Works() {
            for (int n = 0; n < NODES_MOST; n++) {
                nodes[n] = new Node();
            }
            startAnew();
        }

        void startAnew() {
            size = 0;
            joins = 0;
            time = 0;
            length = LENGTH_AT_FIRST;
            wholeSnapshots = 0;
            underWay = false;
            aligned = true;
            failures = 0;
            lost = 0;
        }

        void become(Works other) {
            size = other.size;
            joins = other.joins;
            time = other.time;
            length = other.length;
            wholeSnapshots = other.wholeSnapshots;
            underWay = other.underWay;
            aligned = other.aligned;
            failures = other.failures;
            lost = other.lost;
            for (int n = 0; n < size; n++) {
                nodes[n].become(other.nodes[n]);
            }
        }

        boolean hasNode(int n) {
            return n >= 0 && n < size;
        }

        int tally(int what) {
            switch (what) {
                case 0: return size;
                case 1: return time;
                case 2: return length;
                case 3: return wholeSnapshots;
                case 4: return underWay ? 1 : 0;
                case 5: return aligned ? 1 : 0;
                case 6: return numbersStored();
                case 7: return failures;
                case 8: return lost;
                default: return lettersOnTheirWay();
            }
        }

        int numbersStored() {
            int numbers = 0;
            for (int n = 0; n < size; n++) {
                numbers += nodes[n].lastPart.numbers;
            }
            return numbers;
        }

        int lettersOnTheirWay() {
            int letters = 0;
            for (int n = 0; n < size; n++) {
                letters += nodes[n].in0.size + nodes[n].in1.size;
            }
            return letters;
        }

        /** Why an ORDER would be refused now; FINE: it would not. */
        int refusal(int sign, int p, int a, int b, int k) {
            switch (sign) {
                case NODE_ORDER: return nodeRefusal(p, a, b, k);
                case LENGTH_ORDER: return p < 0 || p > LENGTH_MOST ? BAD : FINE;
                case STEPS_ORDER: return p < 1 || p > STEPS_MOST ? BAD : FINE;
                case ALIGN_ORDER:
                    if (p != 0 && p != 1) {
                        return BAD;
                    }
                    return underWay ? NO : FINE;
                case MARK_ORDER: return underWay ? NO : FINE;
                case FAIL_ORDER: return FINE;
                default: return BAD;
            }
        }

        int nodeRefusal(int kind, int a, int b, int k) {
            if (!isNodeAsTold(kind, a, b, k)) {
                return BAD;
            }
            if (time != 0) {
                return NO;
            }
            return size >= NODES_MOST || kind == JOIN && joins >= JOINS_MOST ? FULL : FINE;
        }

        boolean isNodeAsTold(int kind, int a, int b, int k) {
            switch (kind) {
                case SOURCE: return a >= 1 && a <= PERIOD_MOST && b == NONE && k >= 0 && k <= K_MOST;
                case ADDER: return canFeed(a) && b == NONE && k >= 0 && k <= K_MOST;
                case SIEVE: return canFeed(a) && b == NONE && k >= 1 && k <= K_MOST;
                case TOTALS:
                case SINK: return canFeed(a) && b == NONE && k == 0;
                case JOIN: return canFeed(a) && canFeed(b) && k == 0;
                default: return false;
            }
        }

        boolean canFeed(int n) {
            return hasNode(n) && nodes[n].kind != SINK;
        }

        /** Does an ORDER that is not refused; answers as its call does. */
        int carryOut(int sign, int p, int a, int b, int k) {
            switch (sign) {
                case NODE_ORDER: return addNode(p, a, b, k);
                case LENGTH_ORDER: return changeLength(p);
                case STEPS_ORDER: return goOn(p);
                case ALIGN_ORDER: return changeAligned(p == 1);
                case MARK_ORDER: return beginSnapshot();
                case FAIL_ORDER: return goBack();
                default: return BAD;
            }
        }

        int addNode(int kind, int a, int b, int k) {
            if (size >= NODES_MOST) {
                return FULL;
            }
            nodes[size].start(kind, a, b, k);
            if (kind == JOIN) {
                joins++;
            }
            size++;
            return size - 1;
        }

        int changeLength(int newLength) {
            int lengthBefore = length;
            length = newLength;
            return lengthBefore;
        }

        int changeAligned(boolean newAligned) {
            int alignedBefore = aligned ? 1 : 0;
            aligned = newAligned;
            return alignedBefore;
        }

        int beginSnapshot() {
            underWay = true;
            for (int n = 0; n < size; n++) {
                nodes[n].hasToMark = nodes[n].kind == SOURCE;
                nodes[n].partIsWhole = false;
            }
            return wholeSnapshots + 1;
        }

        int goBack() {
            underWay = false;
            failures++;
            for (int n = 0; n < size; n++) {
                nodes[n].goBack();
            }
            return wholeSnapshots;
        }

        int goOn(int steps) {
            for (int i = 0; i < steps; i++) {
                for (int n = 0; n < size; n++) {
                    if (nodes[n].kind == SOURCE) {
                        actAsSource(n);
                    } else {
                        actAsTaker(n);
                    }
                }
                if (underWay && allPartsAreWhole()) {
                    settleSnapshot();
                }
                time++;
            }
            return time;
        }

        void actAsTaker(int n) {
            Node node = nodes[n];
            int in = node.inToTake();
            if (in == NONE || !hasRoom(n)) {
                return;
            }
            int letter = node.take(in);
            int sent = letter == BARRIER ? node.meetBarrier(in, aligned) : node.meetItem(in, letter);
            if (sent != NONE) {
                send(n, sent);
            }
        }

        void actAsSource(int n) {
            Node source = nodes[n];
            int period = source.a;
            if (period <= 0 || time % period != 0 || !hasRoom(n)) {
                return;
            }
            if (source.hasToMark) {
                source.markPosition();
                send(n, BARRIER);
            } else if (source.position < length) {
                send(n, source.itemHere());
                source.position++;
            }
        }

        boolean hasRoom(int n) {
            for (int m = n + 1; m < size; m++) {
                for (int in = 0; in < INS_MOST; in++) {
                    if (nodes[m].isFedBy(n, in) && nodes[m].channel(in).size >= CHANNEL_ROOM) {
                        return false;
                    }
                }
            }
            return true;
        }

        void send(int n, int letter) {
            for (int m = n + 1; m < size; m++) {
                for (int in = 0; in < INS_MOST; in++) {
                    if (nodes[m].isFedBy(n, in)) {
                        nodes[m].channel(in).put(letter);
                    }
                }
            }
        }

        boolean allPartsAreWhole() {
            for (int n = 0; n < size; n++) {
                if (!nodes[n].partIsWhole) {
                    return false;
                }
            }
            return true;
        }

        void settleSnapshot() {
            underWay = false;
            wholeSnapshots++;
            for (int n = 0; n < size; n++) {
                lost += nodes[n].settlePart();
            }
        }
    }

    /** THE TEXT and the ORDERS that were read in it. */
    private static final class Text {
        final int[] bytes = new int[TEXT_MOST];
        int length;
        final int[] cells = new int[ORDERS_MOST * ORDER_CELLS];
        int orders;
        int place;

        void put(int c) {
            if (length < TEXT_MOST) {
                bytes[length] = c;
                length++;
            }
        }

        int sign(int order) {
            return cell(order * ORDER_CELLS);
        }

        int number(int order, int i) {
            return cell(order * ORDER_CELLS + 1 + i);
        }

        int cell(int at) {
            return at >= 0 && at < cells.length ? cells[at] : NONE;
        }

        void setCell(int at, int value) {
            if (at >= 0 && at < cells.length) {
                cells[at] = value;
            }
        }

        /** Reads all ORDERS; answers the FAULT, NONE if there is none. */
        int read() {
            orders = 0;
            place = 0;
            skipBlanks();
            for (int i = 0; i <= ORDERS_MOST && (orders == 0 || place < length); i++) {
                if (!readOrder()) {
                    return place;
                }
                skipBlanks();
            }
            return NONE;
        }

        /** Answers whether a whole ORDER stood at the place; if not, the place is the FAULT then. */
        boolean readOrder() {
            int sign = byteHere();
            int numbers = numbersOf(sign);
            if (numbers == NONE) {
                return false;
            }
            int at = orders * ORDER_CELLS;
            setCell(at, sign);
            place++;
            for (int i = 1; i <= numbers; i++) {
                skipBlanks();
                if (!readNumber(at + i, sign == NODE_ORDER && i > 1)) {
                    return false;
                }
            }
            skipBlanks();
            if (byteHere() != ORDER_END) {
                return false;
            }
            place++;
            orders++;
            return true;
        }

        int numbersOf(int sign) {
            switch (sign) {
                case NODE_ORDER: return 4;
                case STEPS_ORDER:
                case ALIGN_ORDER:
                case LENGTH_ORDER: return 1;
                case MARK_ORDER:
                case FAIL_ORDER: return 0;
                default: return NONE;
            }
        }

        boolean readNumber(int at, boolean mayBeNone) {
            if (mayBeNone && byteHere() == NONE_SIGN) {
                setCell(at, NONE);
                place++;
                return true;
            }
            if (!figureHere()) {
                return false;
            }
            int number = byteHere() - '0';
            place++;
            if (figureHere()) {
                number = number * 10 + byteHere() - '0';
                place++;
            }
            setCell(at, number);
            return !figureHere();
        }

        /** NONE: THE TEXT ends here. */
        int byteHere() {
            return place >= 0 && place < length && place < TEXT_MOST ? bytes[place] : NONE;
        }

        boolean figureHere() {
            return byteHere() >= '0' && byteHere() <= '9';
        }

        void skipBlanks() {
            for (int i = 0; i < TEXT_MOST && byteHere() == BLANK; i++) {
                place++;
            }
        }
    }
}
