/** Promise 12: pileAt. */
@Section("Promise 12: pileAt")
public final class Promise12PileAtTest {
    public static void main(String[] args) {
        Due.sentencesOf(Promise12PileAtTest.class);
    }

    private static void told(Run x, int pile, int... wants) {
        for (int what = 0; what < wants.length; what++) {
            x.is(wants[what], "pileAt", pile, what);
        }
    }

    @Sentence("Of a pile what 0 its slices, 1 slices taken, 2 layers, 3 grams in all, 4 grams"
            + " taken.")
    static void whatIsToldOfAPile(Run x) {
        x.smallYard().does("pile", 4).does("pile", 65536);
        told(x, 0, 4, 0, 0, 0, 0);
        x.does("lay", 0, 0, 1).does("lay", 0, 0, 2);
        told(x, 0, 4, 0, 2, 3000, 0);
        x.does("slice", 0).does("slice", 0).does("slice", 0);
        told(x, 0, 4, 3, 2, 3000, 2250);
        x.does("slice", 0);
        told(x, 0, 4, 4, 2, 3000, 3000);
        told(x, 1, 65536, 0, 0, 0, 0);
    }

    @Sentence("1 slices taken, 2 layers, 3 grams in all, 4 grams taken.")
    static void emptySlicesAreTakenSlices(Run x) {
        x.smallYard().does("moisture", 0, 900).does("pile", 200).does("lay", 0, 0, 1);
        x.is(0, "slice", 0);
        told(x, 0, 200, 1, 1, 100, 0);
        x.is(1, "slice", 0).is(0, "slice", 0);
        told(x, 0, 200, 3, 1, 100, 1);
    }

    @Sentence("2 layers, 3 grams in all")
    static void theFullPile(Run x) {
        x.fullYard().does("pile", 1);
        for (int material = 0; material < 4; material++) {
            x.times(5, "lay", 0, material, 1000);
        }
        told(x, 0, 1, 0, 20, 20000000, 0);
        x.does("slice", 0);
        told(x, 0, 1, 1, 20, 20000000, 20000000);
    }

    @Sentence("Index: no such pile or what.")
    static void indexNoSuchPile(Run x) {
        x.refuses(Run.INDEX, "pileAt", 0, 0);
        for (int made = 0; made < 4; made++) {
            x.does("pile", 5).refusesOutside(0, made, Run.INDEX, 0, "pileAt", 0, 0);
            x.is(5, "pileAt", made, 0);
        }
    }

    @Sentence("Index: no such pile or what.")
    static void indexNoSuchWhat(Run x) {
        x.does("pile", 5).refusesOutside(0, 4, Run.INDEX, 1, "pileAt", 0, 0);
        x.is(5, "pileAt", 0, 0).is(0, "pileAt", 0, 4).refuses(Run.INDEX, "pileAt", 1, 5);
    }
}
