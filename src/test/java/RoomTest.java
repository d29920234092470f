import java.lang.reflect.Array;
import java.lang.reflect.Field;
import java.lang.reflect.Modifier;
import java.util.ArrayList;
import java.util.Collections;
import java.util.IdentityHashMap;
import java.util.List;
import java.util.Set;

/** All calls of one run live in one room: an object is small, and grows by no call. */
public final class RoomTest {
    private static final int CALLS = 512, MOST_OBJECTS = 600000, MOST_ELEMENTS = 7300000;

    public static void main(String[] args) throws IllegalAccessException {
        int[] made = roomOf(new PlumbCreeds());
        // The dearest call is the constructor, since no other one makes anything (LanguageTest).
        Due.isTrue("objects: " + made[0] + ", in each call of a run", made[0] * CALLS <= MOST_OBJECTS);
        Due.isTrue("fields and elements: " + made[1] + ", in each call of a run", made[1] * CALLS <= MOST_ELEMENTS);
        PlumbCreeds x = Edge.rich();
        x.again(0);
        x.book(77, 99, 0);
        x.done();
        x.image(0);
        int[] used = roomOf(x);
        Due.is("objects behind calls", used[0], made[0]);
        Due.is("fields and elements behind calls", used[1], made[1]);
        Due.end("RoomTest");
    }

    /** How many objects and arrays there are, and how many fields and elements they have. */
    private static int[] roomOf(PlumbCreeds x) throws IllegalAccessException {
        Set<Object> found = Collections.newSetFromMap(new IdentityHashMap<>());
        List<Object> open = new ArrayList<>();
        open.add(x);
        int elements = 0;
        while (!open.isEmpty()) {
            Object next = open.remove(open.size() - 1);
            if (found.add(next)) {
                elements += next.getClass().isArray() ? Array.getLength(next) : fieldsOf(next, open);
            }
        }
        return new int[] {found.size(), elements};
    }

    private static int fieldsOf(Object object, List<Object> open) throws IllegalAccessException {
        int fields = 0;
        for (Field field : object.getClass().getDeclaredFields()) {
            if (!Modifier.isStatic(field.getModifiers())) {
                fields++;
                field.setAccessible(true);
                if (!field.getType().isPrimitive() && field.get(object) != null) {
                    open.add(field.get(object));
                }
            }
        }
        return fields;
    }
}
