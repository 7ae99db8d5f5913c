/** Promise 5: stock. */
@Section("Promise 5: stock")
public final class Promise05StockTest {
    public static void main(String[] args) {
        Due.sentencesOf(Promise05StockTest.class);
    }

    @Sentence("A material's stock, in kilos.")
    static void stockOfEachMaterial(Run x) {
        for (int material = 0; material < 8; material++) {
            x.does("ship", 0, material, 100 + material, 0);
        }
        x.does("pile", 1).does("moisture", 2, 500).does("lay", 0, 2, 60);
        for (int material = 0; material < 8; material++) {
            x.is(material == 2 ? 42 : 100 + material, "stock", material);
        }
    }

    @Sentence("A material's stock, in kilos.")
    static void theEmptyStockAndTheFullOne(Run x) {
        x.is(0, "stock", 4).times(40, "ship", 0, 4, 1000, 0).is(40000, "stock", 4);
        x.times(2, "pile", 1).times(20, "lay", 0, 4, 1000).is(20000, "stock", 4);
        x.times(20, "lay", 1, 4, 1000).is(0, "stock", 4);
    }

    @Sentence("Index: no such material.")
    static void indexNoSuchMaterial(Run x) {
        x.smallYard().refusesOutside(0, 7, Run.INDEX, 0, "stock", 0);
        x.is(500, "stock", 0).is(500, "stock", 7);
    }
}
