import java.util.Arrays;

/**
 * A run of calls on a new object. A twin of the object gets the same calls but for the refused
 * ones; in the end both are asked and used in every way, and must answer alike: so each test of a
 * refused call also tests that it changes nothing.
 */
final class Run {
    static final Class<? extends RuntimeException> INDEX = IndexOutOfBoundsException.class;
    static final Class<? extends RuntimeException> TURN = IllegalStateException.class;
    static final Class<? extends RuntimeException> RANGE = IllegalArgumentException.class;
    static final Class<? extends RuntimeException> MEANING = UnsupportedOperationException.class;

    /** The document tells nothing of an object after so many calls. */
    private static final int MOST_CALLS = 512;

    private final BlendRows rows = new BlendRows();
    private final BlendRows twin = new BlendRows();
    private int calls;
    private boolean refused;

    /** A call that is not refused, whatever it answers. */
    Run does(String call, int... with) {
        String got = ofRows(call, with);
        Due.same(told(call, with), got.startsWith("throws") ? got : "something", "something");
        ofTwin(call, with);
        return this;
    }

    Run is(long want, String call, int... with) {
        String got = ofRows(call, with);
        Due.same(told(call, with), got, Long.toString(want));
        Due.same(told(call, with) + " of the twin", ofTwin(call, with), Long.toString(want));
        return this;
    }

    /** Both numbers of a fraction: the call's last argument, the part, is left out. */
    Run fraction(long upper, long lower, String call, int... with) {
        is(upper, call, and(with, 0));
        is(lower, call, and(with, 1));
        return this;
    }

    Run refuses(Class<? extends RuntimeException> kind, String call, int... with) {
        refused = true;
        String got = ofRows(call, with);
        Due.same(told(call, with), got, "throws " + kind.getName());
        return this;
    }

    /** The first value too small and too large in one place of the call, and the int's ends. */
    Run refusesOutside(int least, int most, Class<? extends RuntimeException> kind, int place,
            String call, int... with) {
        for (int bad : new int[] {least - 1, most + 1, Integer.MIN_VALUE, Integer.MAX_VALUE}) {
            int[] changed = with.clone();
            changed[place] = bad;
            refuses(kind, call, changed);
        }
        return this;
    }

    /** Each of 8 materials has 5 ships of 1,000 kilos today: all 40 ships are there. */
    Run fullYard() {
        for (int ship = 0; ship < 40; ship++) {
            does("ship", 0, ship % 8, 1000, 0);
        }
        return this;
    }

    /** Each of 8 materials has 500 kilos today: 8 ships are there. */
    Run smallYard() {
        for (int material = 0; material < 8; material++) {
            does("ship", 0, material, 500, 0);
        }
        return this;
    }

    Run times(int count, String call, int... with) {
        for (int i = 0; i < count; i++) {
            does(call, with);
        }
        return this;
    }

    void end() {
        if (refused) {
            alikeWhenAsked();
            alikeWhenUsed();
            alikeWhenAsked();
        }
        Due.holds("at most " + MOST_CALLS + " calls", calls <= MOST_CALLS);
    }

    private void alikeWhenAsked() {
        for (int material = 0; material < 8; material++) {
            alike("stock", material);
        }
        for (int pile = 0; pile < 4; pile++) {
            for (int what = 0; what < 5; what++) {
                alike("pileAt", pile, what);
            }
            for (int element = 0; element < 4; element++) {
                alike("spread", pile, element, 0);
            }
            for (int element = 0; element < 4; element++) {
                alike("share", pile, element, 0);
            }
            alike("basicity", pile, 0);
        }
        alike("fit", 0, 0);
        alike("fit", 1, 0);
    }

    /** Calls that bring out what no question shows: moistures, shares, counts, ships to come. */
    private void alikeWhenUsed() {
        for (int material = 0; material < 8; material++) {
            alike("ship", 9999, material, 4, 0);
        }
        alike("tick", 1);
        for (int material = 0; material < 8; material++) {
            alike("stock", material);
        }
        alikeToTheLastDay();
        alike("pile", 3);
        for (int pile = 0; pile < 4; pile++) {
            for (int material = 0; material < 8; material++) {
                alike("lay", pile, material, 1);
            }
            alike("slice", pile);
        }
        for (int element = 0; element < 4; element++) {
            alike("mix", 0, 1, element, 5000, 0);
        }
        alike("point", 3, 7);
        alike("point", 9, 1);
    }

    /** Steps of 1,000 and then of halves come to the last day from any day. */
    private void alikeToTheLastDay() {
        for (int thousand = 0; thousand < 9; thousand++) {
            alike("tick", 1000);
        }
        for (int days = 512; days > 0; days /= 2) {
            alike("tick", days);
        }
    }

    private void alike(String call, int... with) {
        String got = ofRows(call, with);
        Due.same("after what was refused, " + told(call, with), got, ofTwin(call, with));
    }

    private String ofRows(String call, int[] with) {
        calls++;
        return Face.answer(Face.method(BlendRows.class, call), rows, with);
    }

    private String ofTwin(String call, int[] with) {
        return Face.answer(Face.method(BlendRows.class, call), twin, with);
    }

    private String told(String call, int[] with) {
        return "call " + calls + ", " + Face.told(call, with) + ",";
    }

    private static int[] and(int[] with, int part) {
        int[] longer = Arrays.copyOf(with, with.length + 1);
        longer[with.length] = part;
        return longer;
    }
}
