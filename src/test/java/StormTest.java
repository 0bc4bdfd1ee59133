import com.sun.management.ThreadMXBean;
import java.lang.management.ManagementFactory;
import java.lang.reflect.Array;
import java.lang.reflect.Field;
import java.lang.reflect.Modifier;
import java.util.ArrayDeque;
import java.util.Collections;
import java.util.Deque;
import java.util.IdentityHashMap;
import java.util.Set;

/**
 * Rules 7 and 12 of LANGUAGE.md: no call ever throws or fails to end, whatever its arguments and the state,
 * and what an object and its calls make is little. The choices come from a counter that is mixed.
 */
public final class StormTest {
    private static final Check CHECK = new Check("StormTest");
    private static final int RUNS = 300, CALLS = 512;
    private static final int ROOM_OBJECTS = 600_000, ROOM_PARTS = 7_300_000;
    private static final int[] ODD = {Integer.MIN_VALUE, Integer.MIN_VALUE + 1, -65536, -257, -256, -129, -128, -61, -17, -16, -15, -14,
        -13, -12, -11, -10, -6, -5, -4, -3, -2, -1, 15, 16, 17, 18, 19, 20, 25, 31, 32, 33, 59, 60, 61, 63, 64, 99, 100, 101, 127, 128,
        255, 256, 1023, 1024, 65535, 65536, 1 << 30, Integer.MAX_VALUE - 60, Integer.MAX_VALUE - 10, Integer.MAX_VALUE - 1, Integer.MAX_VALUE};

    private long state;

    private StormTest(int run) {
        state = run * 0x9E3779B97F4A7C15L + 99;
    }

    public static void main(String[] args) throws IllegalAccessException {
        for (int run = 0; run < RUNS; run++) {
            new StormTest(run).play(run);
        }
        holdsLittle();
        makesLittle();
        CHECK.end();
    }

    private int pick(int n) {
        state = state * 6364136223846793005L + 1442695040888963407L;
        return (int) Long.remainderUnsigned(state >>> 33, n);
    }

    /** Mostly a small number, else one of the odd ones. */
    private int any() {
        return pick(4) == 0 ? ODD[pick(ODD.length)] : pick(pick(3) == 0 ? 16 : 7) - pick(2) * pick(2);
    }

    private void play(int run) {
        RepairGroups x = new RepairGroups();
        long sum = 0;
        int calls = 0;
        try {
            while (calls < CALLS) {
                sum += pick(3) == 0 ? grow(x) : call(x, pick(32));
                calls++;
            }
        } catch (RuntimeException | Error thrown) {
            System.out.println("run " + run + ", call " + calls + ": " + thrown);
            thrown.printStackTrace(System.out);
        }
        CHECK.due("run " + run + ", calls without a throw (" + sum + ")", calls, CALLS);
    }

    /** So that there is something to ask for. */
    private long grow(RepairGroups x) {
        switch (pick(8)) {
            case 0:
                return x.data(pick(7), pick(10));
            case 1:
                return x.parity(pick(7), pick(10));
            case 2:
                return x.tape(pick(6), pick(5), pick(61));
            default:
                String next = x.count(5) % 3 == 0 ? "xxxx2*((" : x.count(5) % 3 == 1 ? "0123401234*()" : "++++)";
                return x.feed(next.charAt(pick(next.length())));
        }
    }

    private long call(RepairGroups x, int what) {
        int a = any();
        int b = any();
        int c = any();
        switch (what) {
            case 0: return x.field(a);
            case 1: return x.calc(a, b, c);
            case 2: return x.data(a, b);
            case 3: return x.feed(a);
            case 4: return x.parity(a, b);
            case 5: return x.row(a, b, c);
            case 6: return x.of(a, b);
            case 7: return x.write(a, b);
            case 8: return x.lose(a);
            case 9: return x.repair(a);
            case 10: return x.told(a);
            case 11: return x.rank(a);
            case 12: return x.safe(a);
            case 13: return x.best(a, b, c);
            case 14: return x.see(a, b);
            case 15: return x.ways(a);
            default: return further(x, what, a, b);
        }
    }

    private long further(RepairGroups x, int what, int a, int b) {
        int c = any();
        switch (what) {
            case 16: return x.can(a);
            case 17: return x.odds(a, b);
            case 18: return x.mean(a);
            case 19: return x.plan(a, b);
            case 20: return x.ends(a);
            case 21: return x.book(a, b);
            case 22: return x.looked();
            case 23: return x.judge(a, b);
            case 24: return x.image();
            case 25: return x.undo();
            case 26: return x.taken(a, b);
            case 27: return x.count(a);
            case 28: return x.tape(a, b, c);
            case 29: return x.item(a, b, (long) c << pick(33));
            case 30: return x.read(a, b);
            default: return x.shift(a, b, any(), c, any());
        }
    }

    /** Objects and arrays that one object holds, and their fields and elements, beside the room that a run has. */
    private static void holdsLittle() throws IllegalAccessException {
        RepairGroups x = new RepairGroups();
        Twins.FULL.on(x);
        x.undo();
        x.best(9, 0, 5);
        x.ends(1);
        int[] held = held(x);
        CHECK.yes("objects and arrays: " + held[0], held[0] <= ROOM_OBJECTS);
        CHECK.yes("fields and elements: " + held[1], held[1] <= ROOM_PARTS);
    }

    /** What 512 calls of one kind make stays in the room, too: a byte a part and 16 an object at least. */
    private static void makesLittle() {
        java.lang.management.ThreadMXBean threads = ManagementFactory.getThreadMXBean();
        if (!(threads instanceof ThreadMXBean) || !((ThreadMXBean) threads).isThreadAllocatedMemorySupported()) {
            return;
        }
        ThreadMXBean counts = (ThreadMXBean) threads;
        Twins.Call[] dear = {x -> x.best(9, 0, 5), x -> x.ends(1), x -> x.mean(0), x -> x.told(3), x -> x.told(6), x -> x.of(3, 6),
            x -> x.of(3, 8), x -> x.safe(5), x -> x.odds(5, 0), x -> x.ways(1), x -> x.can(9), x -> x.looked(), x -> x.judge(0, 0),
            x -> x.image(), x -> x.undo(), x -> x.parity(0, 0), x -> x.repair(9) + x.lose(9), x -> x.shift(0, 0, 0, 1, 59),
            x -> x.tape(3, 3, 60), x -> x.see(-1, 0) + x.see(0, 0), x -> x.plan(-1, 0) + x.plan(0, 0), x -> x.calc(2, 9, 7)};
        for (int i = 0; i < dear.length; i++) {
            RepairGroups x = new RepairGroups();
            Twins.FULL.on(x);
            long ahead = counts.getCurrentThreadAllocatedBytes();
            for (int call = 0; call < CALLS; call++) {
                dear[i].on(x);
            }
            long made = counts.getCurrentThreadAllocatedBytes() - ahead;
            CHECK.yes("bytes that 512 of the dear calls " + i + " make: " + made, made <= 16L * ROOM_OBJECTS + ROOM_PARTS);
        }
    }

    private static int[] held(Object first) throws IllegalAccessException {
        Set<Object> met = Collections.newSetFromMap(new IdentityHashMap<>());
        Deque<Object> open = new ArrayDeque<>();
        open.add(first);
        met.add(first);
        int parts = 0;
        while (!open.isEmpty()) {
            Object one = open.remove();
            if (one.getClass().isArray()) {
                parts += Array.getLength(one);
                for (int i = 0; one instanceof Object[] && i < Array.getLength(one); i++) {
                    meet(Array.get(one, i), met, open);
                }
                continue;
            }
            for (Field field : one.getClass().getDeclaredFields()) {
                if (!Modifier.isStatic(field.getModifiers())) {
                    parts++;
                    field.setAccessible(true);
                    meet(field.getType().isPrimitive() ? null : field.get(one), met, open);
                }
            }
        }
        return new int[] {met.size(), parts};
    }

    private static void meet(Object one, Set<Object> met, Deque<Object> open) {
        if (one != null && met.add(one)) {
            open.add(one);
        }
    }
}
