/** Promise 2: moisture. */
@Section("Promise 2: moisture")
public final class Promise02MoistureTest {
    public static void main(String[] args) {
        Due.sentencesOf(Promise02MoistureTest.class);
    }

    @Sentence("A material's moisture.")
    static void moistureOfEachMaterial(Run x) {
        x.smallYard().does("pile", 1);
        for (int material = 0; material < 8; material++) {
            x.does("moisture", material, 100 * material);
        }
        int grams = 0;
        for (int material = 0; material < 8; material++) {
            grams += 1000 - 100 * material;
            x.is(grams, "lay", 0, material, 1);
        }
    }

    @Sentence("A material's moisture.")
    static void moistureSetAnew(Run x) {
        x.smallYard().does("pile", 1).does("moisture", 3, 900).does("moisture", 3, 1);
        x.is(999, "lay", 0, 3, 1).does("moisture", 3, 0).is(1999, "lay", 0, 3, 1);
    }

    @Sentence("Index: no such material")
    static void indexNoSuchMaterial(Run x) {
        x.smallYard().does("pile", 1).does("moisture", 0, 10).does("moisture", 7, 20);
        x.refusesOutside(0, 7, Run.INDEX, 0, "moisture", 0, 500);
        x.is(990, "lay", 0, 0, 1).is(1970, "lay", 0, 7, 1);
    }

    @Sentence("range: it.")
    static void rangeOfMoisture(Run x) {
        x.smallYard().does("pile", 1).does("moisture", 0, 900);
        x.refusesOutside(0, 900, Run.RANGE, 1, "moisture", 0, 0).is(100, "lay", 0, 0, 1);
        x.does("moisture", 0, 0).refusesOutside(0, 900, Run.RANGE, 1, "moisture", 0, 0);
        x.is(1100, "lay", 0, 0, 1);
    }

    @Sentence("Index: no such material; range: it.")
    static void indexBeforeRange(Run x) {
        for (int material : new int[] {-1, 8}) {
            x.refusesOutside(0, 900, Run.INDEX, 1, "moisture", material, 0);
        }
    }
}
