import java.lang.reflect.Array;
import java.lang.reflect.Field;
import java.lang.reflect.Method;
import java.lang.reflect.Modifier;
import java.util.ArrayDeque;
import java.util.Collections;
import java.util.Deque;
import java.util.IdentityHashMap;
import java.util.Set;

/** The room of a run: an object is small, and its calls make nothing more, however often they are made. */
final class RoomTest {
    private static final int ROUNDS = 1000;
    private static final int LEAST_OBJECT = 16;
    private static final int MOST_OBJECTS = 1000, MOST_ELEMENTS = 10_000;

    private RoomTest() {
    }

    static void run(Check check) throws Exception {
        check.part("the room of a run");
        ofAnObject(check);
        ofCalls(check);
    }

    private static void ofAnObject(Check check) throws Exception {
        Set<Object> found = Collections.newSetFromMap(new IdentityHashMap<>());
        Deque<Object> left = new ArrayDeque<>();
        left.add(new CloudLaundry());
        int elements = 0;
        while (!left.isEmpty()) {
            Object one = left.remove();
            if (found.add(one)) {
                elements += one.getClass().isArray() ? array(one, left) : fields(one, left);
            }
        }
        check.holds(found.size() + " objects and arrays are few", found.size() <= MOST_OBJECTS);
        check.holds(elements + " fields and elements are few", elements <= MOST_ELEMENTS);
    }

    private static int array(Object array, Deque<Object> left) {
        int length = Array.getLength(array);
        for (int i = 0; i < length && !array.getClass().getComponentType().isPrimitive(); i++) {
            if (Array.get(array, i) != null) {
                left.add(Array.get(array, i));
            }
        }
        return length;
    }

    private static int fields(Object one, Deque<Object> left) throws Exception {
        int fields = 0;
        for (Class<?> type = one.getClass(); type != Object.class; type = type.getSuperclass()) {
            for (Field field : type.getDeclaredFields()) {
                if (Modifier.isStatic(field.getModifiers())) {
                    continue;
                }
                fields++;
                field.setAccessible(true);
                if (!field.getType().isPrimitive() && field.get(one) != null) {
                    left.add(field.get(one));
                }
            }
        }
        return fields;
    }

    /** Of a Java without this counter nothing is asked. */
    private static Method bytesMade() throws Exception {
        try {
            return Class.forName("com.sun.management.ThreadMXBean").getMethod("getCurrentThreadAllocatedBytes");
        } catch (ClassNotFoundException | NoSuchMethodException none) {
            return null;
        }
    }

    private static void ofCalls(Check check) throws Exception {
        Method bytes = bytesMade();
        if (bytes == null) {
            return;
        }
        Object thread = Class.forName("java.lang.management.ManagementFactory").getMethod("getThreadMXBean").invoke(null);
        bytes.invoke(thread);
        CloudLaundry x = new CloudLaundry();
        char[] text = "summer;white 20 6;fog 9 4;bride 9 9;stain 0 0 5;stain 1 5 2;stain 2 3 9;washer 2;washer 3;soap 5;eye 9".toCharArray();
        everyCall(x, text);
        long before = (Long) bytes.invoke(thread);
        for (int i = 0; i < ROUNDS; i++) {
            everyCall(x, text);
        }
        long made = (Long) bytes.invoke(thread) - before;
        check.holds("bytes made in " + ROUNDS + " rounds of calls: " + made, made < LEAST_OBJECT * ROUNDS);
    }

    private static int everyCall(CloudLaundry x, char[] text) {
        x.erase();
        for (char letter : text) {
            x.write(letter);
        }
        int all = x.fault() + x.summer() + x.wash(0, 0) + x.wash(1, 1) + x.hour(2) + x.hang(1) + x.keep(0) + x.hour(3) + x.send(1);
        all += x.again(1) + x.soap(3) + x.undo() + x.back(0) + x.cloud(0, 1) + x.deep(0, 0) + x.washer(0, 1) + x.water(1, 0) + x.as(1, 1);
        all += x.takes(2, 3) + x.later(0, 20) + x.stands(9, 20) + x.plan(-1) + x.plan(2) + x.needed(7) + x.seen(0, 1, 5) + x.kinds(0);
        all += x.lightning(8, 3, 5, 0) + x.line(0, 0, 16) + x.line(1, 1, 16) + x.pin(0, 0, 0, 1) + x.pin(0, 1, 1, 9) + x.peg(0, 0, 0);
        all += x.move(0, 0, 1, 0, 16) + x.sum(0) + x.drop(1) + x.count(13) + x.forget();
        return all;
    }
}
