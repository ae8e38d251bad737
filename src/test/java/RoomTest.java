import java.lang.reflect.Array;
import java.lang.reflect.Field;
import java.lang.reflect.Modifier;
import java.util.Collections;
import java.util.IdentityHashMap;
import java.util.Set;

/** LANGUAGE.md, rule 12: what an object of HawkAsks holds is small, and no call makes it hold more. */
public final class RoomTest {
    private static final Due due = new Due("RoomTest");
    private static final String LARGEST = "c9,30;q8,9,1;q7,8,2;q6,7,1;q5,6,2;q4,5,1;q3,4,0;m9;p9;k9;t9;b9;";

    private final Set<Object> objects = Collections.newSetFromMap(new IdentityHashMap<>());
    private int places;

    public static void main(String[] args) throws IllegalAccessException {
        HawkAsks x = new HawkAsks();
        RoomTest fresh = held(x);
        due.is("objects of a new one: " + fresh.objects.size(), fresh.objects.size() <= 300 ? 1 : 0, 1);
        due.is("fields and elements of a new one: " + fresh.places, fresh.places <= 2500 ? 1 : 0, 1);
        useAll(x);
        RoomTest used = held(x);
        due.is("objects behind many calls", used.objects.size(), fresh.objects.size());
        due.is("fields and elements behind many calls", used.places, fresh.places);
        due.is("the objects are the same", used.objects.containsAll(fresh.objects) ? 1 : 0, 1);
        due.end();
    }

    private static RoomTest held(HawkAsks x) throws IllegalAccessException {
        RoomTest room = new RoomTest();
        room.enter(x);
        return room;
    }

    private void enter(Object one) throws IllegalAccessException {
        if (one == null || !objects.add(one)) {
            return;
        }
        if (one.getClass().isArray()) {
            places += Array.getLength(one);
            for (int i = 0; !one.getClass().getComponentType().isPrimitive() && i < Array.getLength(one); i++) {
                enter(Array.get(one, i));
            }
            return;
        }
        for (Field f : one.getClass().getDeclaredFields()) {
            if (!Modifier.isStatic(f.getModifiers())) {
                places++;
                f.setAccessible(true);
                if (!f.getType().isPrimitive()) {
                    enter(f.get(one));
                }
            }
        }
    }

    private static void useAll(HawkAsks x) {
        for (int row = 0; row < 8; row++) {
            x.row(row, row % 3, 40);
        }
        Due.tell(x, LARGEST);
        due.is("castle()", x.castle(), 5);
        for (int h = 0; h < 5; h++) {
            x.waits(h, h, 0);
            x.ask(h, 0);
            x.fly(h);
            x.starves(h, 0, 30);
            x.who(h, 1, h, 0, 0, 12);
        }
        x.image(0);
        x.image(1);
        for (int k = 0; k < 30; k++) {
            x.hours(1);
            x.flies(60, 0);
            x.falconers(4, 20);
            x.moult(5, 60, 5, 0);
            x.drawn(60, 7, 0);
            x.what(k % 6, 1, 0, 0, 0, 12);
        }
        x.undo();
        x.restore(0);
        x.drop(3);
    }
}
