import java.lang.reflect.Array;
import java.lang.reflect.Field;
import java.lang.reflect.Modifier;
import java.util.ArrayDeque;
import java.util.Collections;
import java.util.Deque;
import java.util.IdentityHashMap;
import java.util.Random;
import java.util.Set;

/** What an object holds, counted, and that calls make no more of it. */
public final class RoomTest {
    public static void main(String[] args) throws IllegalAccessException {
        RingKiln x = new RingKiln();
        int[] fresh = count(x);
        System.out.println("objects and arrays " + fresh[0] + ", fields and elements " + fresh[1]);
        Due.holds("few objects and arrays", fresh[0] <= 200);
        Due.holds("few fields and elements", fresh[1] <= 15000);
        Texts texts = new Texts(new Random(7));
        for (int i = 0; i < 200; i++) {
            Texts.tell(x, texts.kiln(i % 3 == 0));
            x.kiln();
            Texts.tell(x, texts.rule(i % 2 == 0));
            x.rule();
            x.force(i % 6);
            x.day();
            x.image(i % 4);
            x.row(0, 5, 0);
            x.need(0, 0);
            x.look(0);
            x.rains(2, 9, 50, 0);
        }
        int[] used = count(x);
        Due.is("objects and arrays of a used one", used[0], fresh[0]);
        Due.is("fields and elements of a used one", used[1], fresh[1]);
        Due.end();
    }

    private static int[] count(Object root) throws IllegalAccessException {
        Set<Object> seen = Collections.newSetFromMap(new IdentityHashMap<>());
        Deque<Object> open = new ArrayDeque<>();
        open.add(root);
        seen.add(root);
        int cells = 0;
        while (!open.isEmpty()) {
            Object o = open.remove();
            if (o.getClass().isArray()) {
                int n = Array.getLength(o);
                cells += n;
                for (int i = 0; i < n && !o.getClass().getComponentType().isPrimitive(); i++) {
                    see(Array.get(o, i), seen, open);
                }
                continue;
            }
            for (Field f : o.getClass().getDeclaredFields()) {
                if (!Modifier.isStatic(f.getModifiers())) {
                    cells++;
                    if (!f.getType().isPrimitive()) {
                        f.setAccessible(true);
                        see(f.get(o), seen, open);
                    }
                }
            }
        }
        return new int[] {seen.size(), cells};
    }

    private static void see(Object o, Set<Object> seen, Deque<Object> open) {
        if (o != null && seen.add(o)) {
            open.add(o);
        }
    }
}
