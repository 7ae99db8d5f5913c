import java.lang.reflect.InvocationTargetException;
import java.lang.reflect.Method;
import java.lang.reflect.Modifier;
import java.util.ArrayList;
import java.util.Arrays;
import java.util.Comparator;
import java.util.List;

/**
 * LANGUAGE.md, rules 6 and 7: in any state, that of an object after its 512th call too, a call
 * throws nothing but what it declares, and that only by a throw statement of the class. What the
 * machine throws by itself is of other classes; what the library throws, it throws in its own.
 */
public final class NeverByItselfTest {
    private static final int CALLS = 150000;
    private static final int MOST_SLICES = 65536;
    private static final int[] EDGES = {Integer.MIN_VALUE, -65537, -1001, -2, -1, 0, 1, 2, 3, 4, 5,
        7, 8, 20, 21, 40, 41, 900, 999, 1000, 1001, 9999, 10000, 10001, 65536, 65537, 1 << 30,
        Integer.MAX_VALUE - 1, Integer.MAX_VALUE};

    private static long seed = 7;

    public static void main(String[] args) throws IllegalAccessException {
        List<Method> face = new ArrayList<>();
        for (Method method : BlendRows.class.getDeclaredMethods()) {
            if (Modifier.isPublic(method.getModifiers())) {
                face.add(method);
            }
        }
        face.sort(Comparator.comparing(Method::getName));
        callAll(face, new BlendRows(), CALLS);
        callAll(face, usedUp(), CALLS);
        for (int object = 0; object < 200; object++) {
            callAll(face, new BlendRows(), 1 + 3 * object);
            callAll(face, full(), 1 + 3 * object);
        }
        Due.end();
    }

    /** As many ships, piles, layers and points as there can be, on the last day. */
    private static BlendRows full() {
        BlendRows rows = new BlendRows();
        for (int ship = 0; ship < 40; ship++) {
            rows.ship(0, ship % 8, 1000, 0);
        }
        for (int pile = 0; pile < 4; pile++) {
            rows.pile(1 + pile);
            for (int layer = 0; layer < 20; layer++) {
                rows.lay(pile, layer % 8, 10);
            }
        }
        for (int point = 0; point < 20; point++) {
            rows.point(500 * point, 10000 - point);
        }
        for (int today = 0; today < 9000; today += 1000) {
            rows.tick(1000);
        }
        rows.tick(999);
        return rows;
    }

    /** A pile of the most slices, all taken: more calls than an object is made for. */
    private static BlendRows usedUp() {
        BlendRows rows = new BlendRows();
        rows.ship(0, 0, 1000, 0);
        rows.pile(MOST_SLICES);
        rows.lay(0, 0, 1000);
        for (int k = 0; k < MOST_SLICES; k++) {
            rows.slice(0);
        }
        return rows;
    }

    private static void callAll(List<Method> face, BlendRows rows, int calls)
            throws IllegalAccessException {
        for (int i = 0; i < calls; i++) {
            Method call = face.get(pick(face.size()));
            int[] with = new int[call.getParameterCount()];
            for (int place = 0; place < with.length; place++) {
                with[place] = pick(3) == 0 ? EDGES[pick(EDGES.length)] : pick(4);
            }
            tryOut(call, rows, with);
        }
    }

    private static void tryOut(Method call, BlendRows rows, int[] with)
            throws IllegalAccessException {
        try {
            call.invoke(rows, Arrays.stream(with).boxed().toArray());
        } catch (InvocationTargetException e) {
            Throwable thrown = e.getCause();
            String told = Face.told(call.getName(), with) + ", which throws " + thrown;
            Due.holds(told + ", declares it,",
                    Arrays.asList(call.getExceptionTypes()).contains(thrown.getClass()));
            Due.holds(told + ", throws it in the class itself,",
                    thrown.getStackTrace()[0].getClassName().equals("BlendRows"));
        }
    }

    private static int pick(int below) {
        seed = seed * 6364136223846793005L + 1442695040888963407L;
        return (int) ((seed >>> 33) % below);
    }
}
