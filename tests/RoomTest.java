import java.lang.reflect.Array;
import java.lang.reflect.Field;
import java.lang.reflect.Modifier;
import java.util.ArrayDeque;
import java.util.ArrayList;
import java.util.Collections;
import java.util.Deque;
import java.util.IdentityHashMap;
import java.util.List;
import java.util.Set;

/**
 * All calls of a run live in one room of some 600,000 objects and 7.3 million fields and elements: an object takes
 * little of it when it is made, and nothing more behind its dearest 512 calls. (LanguageTest sees that no call makes
 * anything at all.)
 */
public final class RoomTest {
    private static final int MOST_OBJECTS = 100, MOST_ELEMENTS = 12000, CALLS = 512;

    private static int wrong = 0;

    private static void due(String what, boolean holds) {
        if (!holds) {
            wrong++;
            System.out.println("not so: " + what);
        }
    }

    private static void fieldsOf(Object held, List<Object> next, int[] room) throws IllegalAccessException {
        for (Field field : held.getClass().getDeclaredFields()) {
            if (Modifier.isStatic(field.getModifiers())) {
                continue;
            }
            room[1]++;
            field.setAccessible(true);
            if (!field.getType().isPrimitive() && field.get(held) != null) {
                next.add(field.get(held));
            }
        }
    }

    private static void elementsOf(Object row, List<Object> next, int[] room) {
        room[1] += Array.getLength(row);
        if (row instanceof Object[]) {
            for (Object held : (Object[]) row) {
                if (held != null) {
                    next.add(held);
                }
            }
        }
    }

    /** How many objects and arrays are held, and how many fields and elements these have. */
    private static int[] roomOf(GrowingUrns x) throws IllegalAccessException {
        int[] room = new int[2];
        Set<Object> seen = Collections.newSetFromMap(new IdentityHashMap<>());
        Deque<Object> open = new ArrayDeque<>();
        open.add(x);
        while (!open.isEmpty()) {
            Object held = open.poll();
            if (!seen.add(held)) {
                continue;
            }
            room[0]++;
            List<Object> next = new ArrayList<>();
            if (held.getClass().isArray()) {
                elementsOf(held, next, room);
            } else {
                fieldsOf(held, next, room);
            }
            open.addAll(next);
        }
        return room;
    }

    /** A call of each kind that is dear, on URNS of four COLOURS. */
    private static void callOnce(GrowingUrns x, int i) {
        switch (i % 10) {
            case 0: x.shake(7, 50); break;
            case 1: x.mean(0, 12, 3, 3); break;
            case 2: x.told(0, 1, 0, 12, 3); break;
            case 3: x.free(0, 5); break;
            case 4: x.chance(0, 12, 12345678); break;
            case 5: x.sheet(i % 6, i % 3, 16); break;
            case 6: x.put(0, i % 4, 3); break;
            case 7: x.stuck(0, 12); break;
            case 8: x.read(7, 0, 0, 0, 0); break;
            default: x.undo();
        }
    }

    public static void main(String[] args) throws IllegalAccessException {
        GrowingUrns x = new GrowingUrns();
        int[] first = roomOf(x);
        due("at most " + MOST_OBJECTS + " objects: " + first[0], first[0] <= MOST_OBJECTS);
        due("at most " + MOST_ELEMENTS + " fields and elements: " + first[1], first[1] <= MOST_ELEMENTS);
        for (int u = 0; u < 8; u++) {
            x.urn(4);
            x.put(u, u % 4, 3);
            x.is(u, u % 4, u - 1);
        }
        for (int i = 24; i < CALLS; i++) {
            callOnce(x, i);
        }
        int[] last = roomOf(x);
        due("as many objects behind " + CALLS + " calls: " + last[0], last[0] == first[0]);
        due("as many fields and elements behind them: " + last[1], last[1] == first[1]);
        System.out.println(wrong == 0 ? first[0] + " objects, " + first[1] + " fields and elements"
            : wrong + " things of the room are not as due");
        if (wrong != 0) {
            System.exit(1);
        }
    }
}
