import java.lang.reflect.Array;
import java.lang.reflect.Field;
import java.lang.reflect.Modifier;
import java.util.ArrayDeque;
import java.util.Collections;
import java.util.Deque;
import java.util.IdentityHashMap;
import java.util.Set;

/** What an object holds, counted: all calls of one run live in one room, and none makes it fuller. */
public final class RoomTest {
    private static final int OBJECTS = 600_000;
    private static final int ELEMENTS = 7_300_000;
    private static final int CALLS = 512;

    private final Set<Object> seen = Collections.newSetFromMap(new IdentityHashMap<>());
    private final Deque<Object> open = new ArrayDeque<>();
    private int elements = 0;

    public static void main(String[] args) throws IllegalAccessException {
        Check check = new Check("room");
        ConstantStarts x = new ConstantStarts();
        RoomTest before = new RoomTest(x);
        // Were each of the calls a new object, they would still go into the room.
        check.holds(before.seen.size() + " objects", before.seen.size() < OBJECTS / CALLS);
        check.holds(before.elements + " elements", before.elements < ELEMENTS / CALLS);
        useAll(check, x);
        RoomTest after = new RoomTest(x);
        check.due("elements after all calls", after.elements, before.elements);
        check.holds("the objects are the same ones", after.seen.equals(before.seen));
        check.end();
    }

    private RoomTest(ConstantStarts x) throws IllegalAccessException {
        visit(x);
        while (!open.isEmpty()) {
            Object next = open.pop();
            if (next.getClass().isArray()) {
                visitArray(next);
            } else {
                visitFields(next);
            }
        }
    }

    private void visit(Object reached) {
        if (reached != null && seen.add(reached)) {
            open.push(reached);
        }
    }

    private void visitArray(Object array) {
        elements += Array.getLength(array);
        if (array instanceof Object[] objects) {
            for (Object object : objects) {
                visit(object);
            }
        }
    }

    private void visitFields(Object object) throws IllegalAccessException {
        for (Field field : object.getClass().getDeclaredFields()) {
            if (!Modifier.isStatic(field.getModifiers())) {
                elements++;
                field.setAccessible(true);
                if (!field.getType().isPrimitive()) {
                    visit(field.get(object));
                }
            }
        }
    }

    /** Everything is filled, and every loader works all that there is. */
    private static void useAll(Check check, ConstantStarts x) {
        for (int i = 0; i < 12; i++) {
            check.due("module", x.module(8), i);
        }
        for (int i = 0; i < 6; i++) {
            check.due("uses", x.uses(i, i + 1), 1);
            check.due("deed", x.deed(0, 0, i), i + 1);
            check.due("item", x.item(i, 7, i), 1);
        }
        for (int i = 0; i < 40; i++) {
            boolean namesModule = i % 12 >= 8 && i % 12 <= 10;
            check.due("constant", x.constant(i % 12, i % 12, namesModule ? i % 12 : 39 - i, i % 8, 0), i);
        }
        for (int i = 0; i < 120; i++) {
            x.need(i % 3, i / 3);
            x.start(i % 3, i % 12);
        }
        for (int i = 0; i < 41; i++) {
            x.alike(i);
        }
        for (int i = 0; i < 3; i++) {
            check.holds("modules started or broke", x.forget(i) > 0);
            x.state(i, 0);
            x.kept(i, 0);
            x.row(i, 0, 7);
            x.trace(i, 0);
            x.fault(i);
            x.told(i);
            x.value();
        }
    }
}
