import java.lang.reflect.Array;
import java.lang.reflect.Field;
import java.lang.reflect.Modifier;
import java.util.ArrayDeque;
import java.util.Collections;
import java.util.Deque;
import java.util.IdentityHashMap;
import java.util.Set;

/** An object stays small: as many objects, fields and elements after all its calls as when it was made. */
public final class RoomTest {
    private static final int MOST_OBJECTS = 100, MOST_PARTS = 5000, CALLS = 512;

    private final Set<Object> seen = Collections.newSetFromMap(new IdentityHashMap<>());
    private final Deque<Object> open = new ArrayDeque<>();
    private int parts = 0;

    private RoomTest(KneesLent x) throws IllegalAccessException {
        meet(x);
        while (!open.isEmpty()) {
            Object one = open.pop();
            if (one.getClass().isArray()) {
                countElements(one);
            } else {
                countFields(one);
            }
        }
    }

    private void meet(Object one) {
        if (one != null && seen.add(one)) {
            open.push(one);
        }
    }

    private void countElements(Object array) {
        parts += Array.getLength(array);
        for (int i = 0; i < Array.getLength(array) && !array.getClass().getComponentType().isPrimitive(); i++) {
            meet(Array.get(array, i));
        }
    }

    private void countFields(Object one) throws IllegalAccessException {
        for (Field f : one.getClass().getDeclaredFields()) {
            if (!Modifier.isStatic(f.getModifiers())) {
                parts++;
                f.setAccessible(true);
                if (!f.getType().isPrimitive()) {
                    meet(f.get(one));
                }
            }
        }
    }

    private static void useUp(KneesLent x) {
        Due.typeAll(x, Edges.WHOLE);
        x.parish();
        for (int call = Edges.WHOLE.length() + 1; call < CALLS; call += 16) {
            x.lends(call % 9, call % 6);
            x.walks(call % 6, 1, 0);
            x.pledges(call % 9, call % 2);
            x.brings(call % 7);
            x.bell();
            x.undo();
            x.keep(call % 2);
            x.back(0);
            x.tells(0, 4, 5);
            x.felt(1, 0);
            x.rain(1);
            x.most(0);
            x.lending(63);
            x.kneeFor(63, 5, 1);
            x.gives(0, 6, 9, 4, 5, 0);
            x.rate(3, 0);
        }
    }

    public static void main(String[] args) throws IllegalAccessException {
        Due.about("room");
        KneesLent x = new KneesLent();
        RoomTest made = new RoomTest(x);
        useUp(x);
        RoomTest used = new RoomTest(x);
        Due.due(made.seen.size() + " objects: too many", made.seen.size() > MOST_OBJECTS ? 1 : 0, 0);
        Due.due(made.parts + " fields and elements: too many", made.parts > MOST_PARTS ? 1 : 0, 0);
        Due.due("objects after its calls", used.seen.size(), made.seen.size());
        Due.due("fields and elements after its calls", used.parts, made.parts);
        System.out.println(made.seen.size() + " objects, " + made.parts + " fields and elements");
        Due.end();
    }
}
