import java.lang.management.ManagementFactory;
import java.lang.reflect.Array;
import java.lang.reflect.Field;
import java.lang.reflect.Modifier;
import java.util.ArrayDeque;
import java.util.Collections;
import java.util.Deque;
import java.util.IdentityHashMap;
import java.util.Set;

/** All calls of a run live in one room: a store is small, and its calls make no objects. */
public final class RoomTest {
    /** So that even a run of 512 new stores stays below 600,000 objects and 7.3 million elements. */
    private static final int MOST_OBJECTS = 1_100;
    private static final int MOST_ELEMENTS = 14_000;
    private static final int ROUNDS = 5_000;
    private static final long MOST_BYTES = 64_000;

    private static final Checks checks = new Checks("RoomTest");
    private static final Deque<Object> todo = new ArrayDeque<>();

    public static void main(String[] args) throws IllegalAccessException {
        lookAtNewStore();
        lookAtCalls();
        checks.finish();
    }

    private static void lookAtNewStore() throws IllegalAccessException {
        checks.start("a new store");
        Set<Object> seen = Collections.newSetFromMap(new IdentityHashMap<>());
        int elements = 0;
        todo.add(new Bitmapstore());
        while (!todo.isEmpty()) {
            Object object = todo.pop();
            if (seen.add(object)) {
                elements += object.getClass().isArray() ? elementsOf(object) : fieldsOf(object);
            }
        }
        checks.due(seen.size() + " objects are few", seen.size() <= MOST_OBJECTS, true);
        checks.due(elements + " elements are few", elements <= MOST_ELEMENTS, true);
    }

    private static int elementsOf(Object array) {
        boolean isOfObjects = !array.getClass().getComponentType().isPrimitive();
        for (int i = 0; isOfObjects && i < Array.getLength(array); i++) {
            addTodo(Array.get(array, i));
        }
        return Array.getLength(array);
    }

    private static int fieldsOf(Object object) throws IllegalAccessException {
        int many = 0;
        for (Field field : object.getClass().getDeclaredFields()) {
            if (Modifier.isStatic(field.getModifiers())) {
                continue;
            }
            many++;
            if (!field.getType().isPrimitive()) {
                field.setAccessible(true);
                addTodo(field.get(object));
            }
        }
        return many;
    }

    private static void addTodo(Object object) {
        if (object != null) {
            todo.push(object);
        }
    }

    private static void lookAtCalls() {
        checks.start("calls");
        Bitmapstore x = new Bitmapstore();
        x.fill(1, 20, 20);
        for (int column = 0; column < 4; column++) {
            x.addCondition(column, column, 3);
        }
        round(x);
        long ahead = allocated();
        for (int i = 0; i < ROUNDS; i++) {
            round(x);
        }
        long made = allocated() - ahead;
        checks.due(made + " bytes are few", made <= MOST_BYTES, true);
    }

    private static long allocated() {
        com.sun.management.ThreadMXBean threads =
                (com.sun.management.ThreadMXBean) ManagementFactory.getThreadMXBean();
        return threads.getCurrentThreadAllocatedBytes();
    }

    /** Nearly each call, once. */
    private static void round(Bitmapstore x) {
        changes(x);
        x.nextRow(3);
        x.values(0);
        x.outermost(0, true);
        x.beside(0, 3, true);
        x.kept(0, 1, 3);
        x.countIn(0, 3, 9);
        x.next(0, 9, false);
        x.relation(0, 1);
        x.union(0, 1, 2);
        x.sum(0, 0);
        x.middle(0, 0);
        x.top(0, 0, 3);
        x.unlike(0, 0);
        x.join(0, 0, 1, 0);
        if (x.rollup(0, 15) > 0) {
            x.groupAt(0, 4);
        }
        if (x.runs(0) > 0) {
            x.runAt(0, 0, true);
        }
        x.conditionAt(0, 5);
        x.cost(0, 1);
        x.planCost();
        x.mean(0, 0);
        x.share(0);
        x.errors();
    }

    private static void changes(Bitmapstore x) {
        x.strike(x.addRow(1, 2, 3, 4));
        x.fill(1, 20, 20);
        x.undo();
        x.setValue(0, 0, 5);
        x.select(0, 0, 3, 2, 2);
        x.select(1, 1, 5, 2, 1);
        x.select(2, 2, 0, 2, 0);
        x.between(3, 0, 2, 9);
        x.compare(4, 0, 1, 2);
        x.combine(4, 1, 3);
        x.contrary(5);
        x.copyOf(6, 5);
        x.put(6, 3, true);
        x.sample(6, 7, 3);
        x.partners(7, 0, 5, 1, 5);
        x.runPlan(3);
        x.pack(0, 0);
        x.pack(1, 1);
        x.combinePacked(1, 2, 0);
        x.contraryPacked(1);
        x.unpack(2, 1);
        x.dropCondition(x.conditions() - 1);
        x.addCondition(3, 3, 3);
        for (int i = 0; i < 8; i++) {
            x.undo();
        }
        x.contrary(0);
    }
}
