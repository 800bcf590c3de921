import java.lang.reflect.Array;
import java.lang.reflect.Field;
import java.lang.reflect.Modifier;
import java.util.Collections;
import java.util.IdentityHashMap;
import java.util.Set;

/**
 * What an object takes of the room that the calls of a run live in: some 600,000 objects and
 * arrays, 7.3 million fields and elements. It makes all of it in its constructor and goes on with
 * it; LanguageTest looks that no method makes more, but for exceptions.
 */
public final class RoomTest {
    private static final Check CHECK = new Check("RoomTest");
    private static final int MOST_OBJECTS = 600;
    private static final int MOST_CELLS = 7300;

    private final Set<Object> objects = Collections.newSetFromMap(new IdentityHashMap<>());
    private int cells;

    private RoomTest(Object from) throws IllegalAccessException {
        walk(from);
    }

    public static void main(String[] args) throws IllegalAccessException {
        aNewObject();
        noCallMakesMore();
        twoObjectsShareNothing();
        CHECK.end();
    }

    private void walk(Object from) throws IllegalAccessException {
        if (from == null || !objects.add(from)) {
            return;
        }
        if (from.getClass().isArray()) {
            cells += Array.getLength(from);
            if (from instanceof Object[] elements) {
                for (Object element : elements) {
                    walk(element);
                }
            }
            return;
        }
        for (Field field : from.getClass().getDeclaredFields()) {
            if (!Modifier.isStatic(field.getModifiers())) {
                cells++;
                field.setAccessible(true);
                if (!field.getType().isPrimitive()) {
                    walk(field.get(from));
                }
            }
        }
    }

    private static void aNewObject() throws IllegalAccessException {
        RoomTest room = new RoomTest(new NappingViews());
        int objects = room.objects.size();
        CHECK.is("objects of a new object: " + objects, objects <= MOST_OBJECTS, true);
        CHECK.is("fields and elements: " + room.cells, room.cells <= MOST_CELLS, true);
    }

    private static void noCallMakesMore() throws IllegalAccessException {
        NappingViews x = new NappingViews();
        RoomTest before = new RoomTest(x);
        Scenes.play(x, "i0a1;i1b2;z1;u0=9;g1d;t3;r2;w1;x0;x0");
        x.keep();
        for (int i = 0; i < 40; i++) {
            x.nap(i % 3);
            x.change(1, i);
            x.wake(i % 3);
        }
        x.restore();
        x.undo();
        Looks.at(x);
        RoomTest behind = new RoomTest(x);
        CHECK.is("objects behind many calls", behind.objects.size(), before.objects.size());
        CHECK.is("they are the same ones", before.objects.containsAll(behind.objects), true);
        CHECK.is("fields and elements behind many calls", behind.cells, before.cells);
    }

    private static void twoObjectsShareNothing() throws IllegalAccessException {
        RoomTest one = new RoomTest(new NappingViews());
        RoomTest other = new RoomTest(Scenes.busy());
        CHECK.is("both are as large", other.objects.size(), one.objects.size());
        boolean shared = false;
        for (Object object : other.objects) {
            shared |= one.objects.contains(object);
        }
        CHECK.is("something is shared", shared, false);
    }
}
