import com.sun.management.ThreadMXBean;
import java.lang.management.ManagementFactory;
import java.lang.reflect.Array;
import java.lang.reflect.Field;
import java.lang.reflect.Modifier;
import java.util.ArrayDeque;
import java.util.Collections;
import java.util.Deque;
import java.util.IdentityHashMap;
import java.util.Set;

/** Terms, last part: memory. No answer shows it, so the test looks into the object. */
@Section("Terms")
public final class TermsMemoryTest {
    private static final int TRIES = 50;

    public static void main(String[] args) throws IllegalAccessException {
        Due.sentencesOf(TermsMemoryTest.class);
    }

    @Sentence("All memory is rows made once.")
    static void anObjectKeepsTheRowsItWasMadeWith(Run x) throws IllegalAccessException {
        BlendRows rows = new BlendRows();
        Set<Object> before = heldBy(rows);
        useAll(rows);
        Set<Object> after = heldBy(rows);
        Due.same("objects held after all calls", after.size() + "", before.size() + "");
        Due.holds("they are those that it was made with,", before.containsAll(after));
    }

    /** The least of some tries, for the machine itself may now and then make something. */
    @Sentence("All memory is rows made once.")
    static void noCallMakesAnything(Run x) {
        ThreadMXBean thread = (ThreadMXBean) ManagementFactory.getThreadMXBean();
        long least = Long.MAX_VALUE;
        for (int i = 0; i < TRIES; i++) {
            BlendRows rows = new BlendRows();
            long before = thread.getCurrentThreadAllocatedBytes();
            useAll(rows);
            least = Math.min(least, thread.getCurrentThreadAllocatedBytes() - before);
        }
        Due.same("bytes made by all calls", least + "", "0");
    }

    /** Every call of the face, up to its limits, and none that is refused. */
    private static void useAll(BlendRows rows) {
        for (int material = 0; material < 8; material++) {
            rows.moisture(material, material);
            rows.element(material, 0, material);
            rows.element(material, 1, 1 + material);
        }
        for (int ship = 0; ship < 40; ship++) {
            rows.ship(ship, ship % 8, 1000, ship);
        }
        rows.tick(40);
        for (int pile = 0; pile < 4; pile++) {
            rows.pile(3);
            for (int layer = 0; layer < 20; layer++) {
                rows.lay(pile, layer % 8, 1 + layer);
            }
            useSlices(rows, pile);
        }
        for (int point = 0; point < 20; point++) {
            rows.point(point, point * point);
            rows.stock(point % 8);
        }
        for (int part = 0; part < 2; part++) {
            rows.mix(0, 7, 0, 3, part);
            rows.fit(0, part);
            rows.fit(1, part);
        }
    }

    private static void useSlices(BlendRows rows, int pile) {
        for (int slice = 0; slice < 3; slice++) {
            rows.slice(pile);
            for (int part = 0; part < 2; part++) {
                rows.share(pile, 1, part);
                rows.basicity(pile, part);
                rows.spread(pile, 1, part);
            }
        }
        for (int what = 0; what < 5; what++) {
            rows.pileAt(pile, what);
        }
    }

    private static Set<Object> heldBy(Object first) throws IllegalAccessException {
        Set<Object> held = Collections.newSetFromMap(new IdentityHashMap<>());
        Deque<Object> open = new ArrayDeque<>();
        hold(first, held, open);
        while (!open.isEmpty()) {
            Object next = open.pop();
            if (next.getClass().isArray()) {
                holdElements(next, held, open);
            } else {
                holdFields(next, held, open);
            }
        }
        return held;
    }

    private static void hold(Object found, Set<Object> held, Deque<Object> open) {
        if (found != null && held.add(found)) {
            open.push(found);
        }
    }

    private static void holdElements(Object row, Set<Object> held, Deque<Object> open) {
        if (!row.getClass().getComponentType().isPrimitive()) {
            for (int i = 0; i < Array.getLength(row); i++) {
                hold(Array.get(row, i), held, open);
            }
        }
    }

    private static void holdFields(Object holder, Set<Object> held, Deque<Object> open)
            throws IllegalAccessException {
        for (Field field : holder.getClass().getDeclaredFields()) {
            if (!field.getType().isPrimitive() && !Modifier.isStatic(field.getModifiers())) {
                field.setAccessible(true);
                hold(field.get(holder), held, open);
            }
        }
    }
}
