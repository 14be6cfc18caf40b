import com.sun.management.ThreadMXBean;
import java.lang.management.ManagementFactory;
import java.lang.reflect.Array;
import java.lang.reflect.Field;
import java.lang.reflect.Modifier;
import java.util.ArrayDeque;
import java.util.Collections;
import java.util.Deque;
import java.util.IdentityHashMap;
import java.util.Set;

/** What an object takes of the room in which all calls of a run live: little at first, and no call takes more. */
public final class RoomTest {
    private static final int OBJECTS_MOST = 1_000, CELLS_MOST = 32_000;
    // What the measuring itself may take.
    private static final long BYTES_MOST = 2_000;

    private static int wrong = 0;

    public static void main(String[] args) throws IllegalAccessException {
        BarrierStreams x = new BarrierStreams();
        long[] atFirst = sizeOf(x);
        due("objects and arrays of a new object: " + atFirst[0], atFirst[0] > 1 && atFirst[0] <= OBJECTS_MOST);
        due("fields and elements of a new object: " + atFirst[1], atFirst[1] > 1 && atFirst[1] <= CELLS_MOST);
        makeCalls(x);
        long[] atLast = sizeOf(x);
        due("objects and arrays after 512 calls: " + atLast[0], atLast[0] == atFirst[0]);
        due("fields and elements after 512 calls: " + atLast[1], atLast[1] == atFirst[1]);

        BarrierStreams y = new BarrierStreams();
        ThreadMXBean threads = (ThreadMXBean) ManagementFactory.getThreadMXBean();
        threads.getCurrentThreadAllocatedBytes();
        long before = threads.getCurrentThreadAllocatedBytes();
        makeCalls(y);
        long taken = threads.getCurrentThreadAllocatedBytes() - before;
        due("bytes that 512 calls took: " + taken, taken <= BYTES_MOST);
        System.out.println(wrong == 0 ? "the room is kept" : wrong + " faults of the room");
        if (wrong != 0) {
            System.exit(1);
        }
    }

    private static void due(String what, boolean kept) {
        if (!kept) {
            wrong++;
            System.out.println(what);
        }
    }

    /** 512 calls of all kinds on a net with all KINDS, SNAPSHOTS of both ways, failures, texts and refusals. */
    private static void makeCalls(BarrierStreams x) {
        int calls = 0;
        String text = "n0 1-0;n0 2-50;n4 0 0 0;n1 2-1;n2 3-7;n3 4-0;n4 1 5 0;n5 6-0;a0;l30;s6;m;s60;f;s8;m;s60;s60;a1;m;s5;";
        for (int i = 0; i < text.length(); i++) {
            x.type(text.charAt(i));
            calls++;
        }
        for (int round = 0; calls + 19 <= 512; round++) {
            x.does();
            x.marks();
            x.steps(1 + round);
            x.fails();
            x.lengthens(30 - round);
            x.aligns(round % 2);
            x.marks();
            x.steps(60);
            x.of(round % 9, round % 11);
            x.letter(6, 1, round);
            x.sum(5, round % 5);
            x.row(7, 2, round);
            x.count(round % 11);
            x.told(round % 6);
            x.digest();
            x.node(4, 0, 0, 0);
            x.type(128 + round);
            x.back();
            if (round % 5 == 4) {
                x.begins();
            }
            calls += 19;
        }
        x.clear();
    }

    /** All that the object holds: how many objects and arrays, how many fields and elements. */
    private static long[] sizeOf(Object start) throws IllegalAccessException {
        Set<Object> seen = Collections.newSetFromMap(new IdentityHashMap<>());
        Deque<Object> waiting = new ArrayDeque<>();
        seen.add(start);
        waiting.add(start);
        long cells = 0;
        while (!waiting.isEmpty()) {
            Object here = waiting.remove();
            if (here.getClass().isArray()) {
                int length = Array.getLength(here);
                cells += length;
                for (int i = 0; i < length && here instanceof Object[] parts; i++) {
                    meet(parts[i], seen, waiting);
                }
                continue;
            }
            for (Field field : here.getClass().getDeclaredFields()) {
                if (!Modifier.isStatic(field.getModifiers())) {
                    cells++;
                    field.setAccessible(true);
                    meet(field.getType().isPrimitive() ? null : field.get(here), seen, waiting);
                }
            }
        }
        return new long[] {seen.size(), cells};
    }

    private static void meet(Object part, Set<Object> seen, Deque<Object> waiting) {
        if (part != null && seen.add(part)) {
            waiting.add(part);
        }
    }
}
