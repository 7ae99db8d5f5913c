import java.lang.reflect.Method;
import java.util.Arrays;

/** Runs of 512 calls, the same ones each time, answered by BlendRows and by PlainModel. */
public final class ModelTest {
    private static final int RUNS = 3000;
    private static final int CALLS = 512;
    private static final String[] NAMES = {"moisture", "element", "ship", "stock", "pile", "lay",
        "slice", "share", "basicity", "spread", "pileAt", "mix", "point", "fit", "tick"};

    /** How often each call comes, in the names' order: enough layers before the slices begin. */
    private static final int[] EARLY = {3, 8, 12, 2, 2, 12, 0, 1, 1, 1, 2, 3, 2, 2, 2};
    private static final int[] LATE = {1, 2, 2, 2, 1, 2, 14, 8, 6, 10, 5, 4, 2, 3, 1};

    private static final Method[] OF_MODEL = callsOf(PlainModel.class);
    private static final Method[] OF_PROGRAM = callsOf(BlendRows.class);

    private static long seed = 1;
    private static final int[] ANSWERED = new int[NAMES.length];
    private static final int[] REFUSED = new int[NAMES.length];

    public static void main(String[] args) {
        for (int run = 0; run < RUNS; run++) {
            run(run);
        }
        for (int call = 0; call < NAMES.length; call++) {
            Due.holds("enough answers of " + NAMES[call], ANSWERED[call] > 1000);
            Due.holds("enough refusals of " + NAMES[call], REFUSED[call] > 300);
        }
        Due.end();
    }

    private static void run(int run) {
        BlendRows program = new BlendRows();
        PlainModel model = new PlainModel();
        boolean wild = run % 5 == 0;
        int early = 60 + pick(150);
        for (int step = 0; step < CALLS; step++) {
            int call = weighted(step < early ? EARLY : LATE);
            int[] with = arguments(call, wild);
            String want = Face.answer(OF_MODEL[call], model, with);
            String got = Face.answer(OF_PROGRAM[call], program, with);
            Due.same("run " + run + ", call " + step + ", " + Face.told(NAMES[call], with) + ",",
                    got, want);
            if (want.startsWith("throws")) {
                REFUSED[call]++;
            } else {
                ANSWERED[call]++;
            }
        }
    }

    /** The two have no type in common, so their calls are found by name. */
    private static Method[] callsOf(Class<?> kind) {
        Method[] calls = new Method[NAMES.length];
        for (int call = 0; call < NAMES.length; call++) {
            calls[call] = Face.method(kind, NAMES[call]);
        }
        return calls;
    }

    private static int pick(int below) {
        seed = seed * 6364136223846793005L + 1442695040888963407L;
        return (int) ((seed >>> 33) % below);
    }

    private static int weighted(int[] weights) {
        int left = pick(Arrays.stream(weights).sum());
        for (int i = 0; i < weights.length; i++) {
            left -= weights[i];
            if (left < 0) {
                return i;
            }
        }
        return 0;
    }

    /** Mostly within the limits, often at their edges, now and then outside. */
    private static int among(int least, int most, boolean wild) {
        int way = pick(wild ? 20 : 60);
        switch (way) {
            case 0:
                return least - 1;
            case 1:
                return most + 1;
            case 2:
                return pick(2) == 0 ? Integer.MIN_VALUE : Integer.MAX_VALUE;
            case 3:
            case 4:
                return least;
            case 5:
            case 6:
            case 7:
                return most;
            default:
                return least + pick(most - least + 1);
        }
    }

    private static int share(boolean wild) {
        return pick(3) == 0 ? among(0, 10000, wild) : 100 * pick(6);
    }

    private static int[] arguments(int call, boolean wild) {
        int material = among(0, 7, wild);
        int element = among(0, 3, wild);
        int pile = pick(4) == 0 ? among(0, 3, wild) : pick(2);
        int part = among(0, 1, wild);
        switch (call) {
            case 0:
                return new int[] {material, among(0, 900, wild)};
            case 1:
                return new int[] {material, element, share(wild)};
            case 2:
                return new int[] {pick(3) == 0 ? among(0, 9999, wild) : pick(400), material,
                    among(1, 1000, wild), among(0, 999, wild) / (1 + pick(9))};
            case 3:
                return new int[] {material};
            case 4:
                return new int[] {pick(3) == 0 ? among(1, 65536, wild) : 1 + pick(60)};
            case 5:
                return new int[] {pile, material,
                    pick(3) == 0 ? among(1, 1000, wild) : 1 + pick(20)};
            case 6:
                return new int[] {pile};
            case 7:
            case 9:
                return new int[] {pile, element, part};
            case 8:
                return new int[] {pile, part};
            case 10:
                return new int[] {pile, among(0, 4, wild)};
            case 11:
                return new int[] {material, among(0, 7, wild), element, share(wild), part};
            case 12:
                return new int[] {among(0, 10000, wild) / (1 + pick(2000)),
                    among(0, 10000, wild) / (1 + pick(50))};
            case 13:
                return new int[] {part, among(0, 1, wild)};
            default:
                return new int[] {pick(2) == 0 ? among(1, 1000, wild) : 1 + pick(30)};
        }
    }
}
