import java.lang.reflect.Array;
import java.lang.reflect.Field;
import java.lang.reflect.Modifier;
import java.util.ArrayDeque;
import java.util.Collections;
import java.util.Deque;
import java.util.IdentityHashMap;
import java.util.Set;

/** An object is small, and its calls do not make it grow: 512 of the largest go into the one room. */
public final class RoomTest {
    private static final int OBJECTS = 600_000 / 512;
    private static final int ELEMENTS = 7_300_000 / 512;

    public static void main(String[] args) throws IllegalAccessException {
        TextEnds ends = new TextEnds(1000, 256, 64);
        long[] asMade = sizes(ends);
        Check.due("few objects", asMade[0] <= OBJECTS, true);
        Check.due("few elements", asMade[1] <= ELEMENTS, true);
        int[] letters = new int[1000];
        for (int i = 0; i < letters.length; i++) {
            letters[i] = i * i % 7;
        }
        Packed.feed(ends, letters);
        ends.build();
        ends.patFeed(1);
        ends.search();
        ends.repeatedAt();
        ends.different();
        long[] asUsed = sizes(ends);
        Check.due("objects after use", asUsed[0], asMade[0]);
        Check.due("elements after use", asUsed[1], asMade[1]);
        Check.end();
    }

    private static long[] sizes(Object root) throws IllegalAccessException {
        Set<Object> seen = Collections.newSetFromMap(new IdentityHashMap<>());
        Deque<Object> open = new ArrayDeque<>();
        open.add(root);
        long elements = 0;
        while (!open.isEmpty()) {
            Object next = open.remove();
            if (seen.add(next)) {
                elements += next.getClass().isArray() ? openArray(next, open) : openFields(next, open);
            }
        }
        return new long[] {seen.size(), elements};
    }

    private static int openArray(Object array, Deque<Object> open) {
        int length = Array.getLength(array);
        if (!array.getClass().getComponentType().isPrimitive()) {
            for (int i = 0; i < length; i++) {
                open.add(Array.get(array, i));
            }
        }
        return length;
    }

    private static int openFields(Object object, Deque<Object> open) throws IllegalAccessException {
        int count = 0;
        for (Field field : object.getClass().getDeclaredFields()) {
            if (Modifier.isStatic(field.getModifiers())) {
                continue;
            }
            count++;
            if (!field.getType().isPrimitive()) {
                field.setAccessible(true);
                open.add(field.get(object));
            }
        }
        return count;
    }
}
