import java.lang.management.ManagementFactory;
import java.lang.reflect.Array;
import java.lang.reflect.Field;
import java.lang.reflect.Modifier;
import java.util.ArrayDeque;
import java.util.IdentityHashMap;
import java.util.Map;

/** All calls of a run share one room, so objects are made by few calls and used again. */
public final class RoomTest {
    private static final long MOST_OBJECTS = 600_000, MOST_ELEMENTS = 7_300_000, CALLS = 512;
    /** Of the operation 0 of an object of each kind that has not had the number before. */
    private static final int[] RESULTS = {0, 0, 0, 1, 0, LinearHistories.NOTHING};

    public static void main(String[] args) throws Exception {
        Check check = new Check();
        LinearHistories x = new LinearHistories();
        long[] made = room(x);
        long[] before = made;
        long[] dearest = made;
        for (int i = 0; i < 6; i++) {
            x.object(i);
            long[] after = room(x);
            dearest = new long[] {
                Math.max(dearest[0], after[0] - before[0]), Math.max(dearest[1], after[1] - before[1])};
            before = after;
        }
        System.out.println("new: " + made[0] + " objects, " + made[1] + " elements; with six objects: "
            + before[0] + ", " + before[1] + "; the dearest call: " + dearest[0] + ", " + dearest[1]);
        check.isTrue("the dearest call, 512 times: objects", dearest[0] * CALLS < MOST_OBJECTS);
        check.isTrue("the dearest call, 512 times: elements", dearest[1] * CALLS < MOST_ELEMENTS);
        check.due("what a whole life of calls makes", bytesOf(x, 40), 0);
        long[] after = room(x);
        check.due("objects behind a life of calls", after[0], before[0]);
        check.due("elements behind a life of calls", after[1], before[1]);
        check.end();
    }

    /** Objects and arrays, and fields and elements, that can be reached from x. */
    private static long[] room(Object x) throws IllegalAccessException {
        long[] sum = new long[2];
        Map<Object, Object> seen = new IdentityHashMap<>();
        ArrayDeque<Object> left = new ArrayDeque<>();
        seen.put(x, x);
        left.add(x);
        while (!left.isEmpty()) {
            Object one = left.remove();
            sum[0]++;
            if (one.getClass().isArray()) {
                sum[1] += Array.getLength(one);
                for (int i = 0; i < Array.getLength(one) && one instanceof Object[]; i++) {
                    visit(Array.get(one, i), seen, left);
                }
                continue;
            }
            for (Field field : one.getClass().getDeclaredFields()) {
                if (Modifier.isStatic(field.getModifiers())) {
                    continue;
                }
                sum[1]++;
                field.setAccessible(true);
                if (!field.getType().isPrimitive()) {
                    visit(field.get(one), seen, left);
                }
            }
        }
        return sum;
    }

    private static void visit(Object one, Map<Object, Object> seen, ArrayDeque<Object> left) {
        if (one != null && seen.put(one, one) == null) {
            left.add(one);
        }
    }

    /** What the calls make behind the first few rounds, in which the machine itself makes things. */
    private static long bytesOf(LinearHistories x, int rounds) {
        com.sun.management.ThreadMXBean threads =
            (com.sun.management.ThreadMXBean) ManagementFactory.getThreadMXBean();
        long id = Thread.currentThread().getId();
        long least = Long.MAX_VALUE;
        for (int round = 0; round < rounds; round++) {
            long start = threads.getThreadAllocatedBytes(id);
            live(x);
            least = Math.min(least, threads.getThreadAllocatedBytes(id) - start);
        }
        return least;
    }

    private static void live(LinearHistories x) {
        x.clear();
        for (int kind = 0; kind < 6; kind++) {
            x.object(kind);
        }
        for (int round = 0; round < 3; round++) {
            for (int process = 0; process < 6; process++) {
                x.call(process, process, 0, round, process);
            }
            for (int process = 0; process < 6; process++) {
                x.back(process, RESULTS[process]);
            }
        }
        for (int object = 0; object < 6; object++) {
            x.call(object, object, 1, 0, 0);
            x.possibilities(object);
            x.judge(object);
            x.judgeOwn(object);
            x.ways(object);
            x.lasts(object);
            x.broken(object);
            x.length();
            x.lose(object);
        }
    }
}
