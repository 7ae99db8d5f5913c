/** Promise 7: lay. */
@Section("Promise 7: lay")
public final class Promise07LayTest {
    public static void main(String[] args) {
        Due.sentencesOf(Promise07LayTest.class);
    }

    @Sentence("Lays a layer: the pile's grams.")
    static void answersThePilesGrams(Run x) {
        x.fullYard().does("pile", 3).does("pile", 3).does("moisture", 0, 80);
        x.is(92000, "lay", 0, 0, 100).is(93000, "lay", 0, 1, 1).is(1092000, "lay", 0, 1, 999);
        x.is(1000000, "lay", 1, 2, 1000).is(1092000, "pileAt", 0, 3);
        x.is(4900, "stock", 0).is(4000, "stock", 1).is(4000, "stock", 2);
    }

    @Sentence("Index: no such pile or material")
    static void indexNoSuchPile(Run x) {
        x.smallYard().refuses(Run.INDEX, "lay", 0, 0, 1).does("pile", 1);
        x.refusesOutside(0, 0, Run.INDEX, 0, "lay", 0, 0, 1).does("pile", 1).does("pile", 1);
        x.refusesOutside(0, 2, Run.INDEX, 0, "lay", 0, 0, 1).does("pile", 1);
        x.refusesOutside(0, 3, Run.INDEX, 0, "lay", 0, 0, 1).is(500, "stock", 0);
        x.is(1000, "lay", 3, 0, 1);
    }

    @Sentence("Index: no such pile or material")
    static void indexNoSuchMaterial(Run x) {
        x.smallYard().does("pile", 1).refusesOutside(0, 7, Run.INDEX, 1, "lay", 0, 0, 1);
        x.is(0, "pileAt", 0, 2).is(1000, "lay", 0, 0, 1).is(2000, "lay", 0, 7, 1);
    }

    @Sentence("turn: a slice was taken")
    static void turnASliceWasTaken(Run x) {
        x.smallYard().does("pile", 2).does("lay", 0, 0, 1).is(3000, "lay", 0, 0, 2);
        x.does("slice", 0).refuses(Run.TURN, "lay", 0, 0, 1).is(497, "stock", 0);
        x.is(2, "pileAt", 0, 2).is(3000, "pileAt", 0, 3).does("slice", 0);
        x.refuses(Run.TURN, "lay", 0, 0, 1).is(497, "stock", 0);
    }

    @Sentence("range: kilos")
    static void rangeKilos(Run x) {
        x.times(2, "ship", 0, 0, 1000, 0).does("pile", 1);
        x.refusesOutside(1, 1000, Run.RANGE, 2, "lay", 0, 0, 1).is(2000, "stock", 0);
        x.is(0, "pileAt", 0, 2).is(1000000, "lay", 0, 0, 1000).is(1001000, "lay", 0, 0, 1);
    }

    @Sentence("meaning: there are 20 layers")
    static void meaningThereAre20Layers(Run x) {
        x.smallYard().does("pile", 1).does("pile", 1).times(19, "lay", 0, 3, 7);
        x.is(140000, "lay", 0, 3, 7).refuses(Run.MEANING, "lay", 0, 3, 1);
        x.is(360, "stock", 3).is(20, "pileAt", 0, 2).is(140000, "pileAt", 0, 3);
        x.is(1000, "lay", 1, 3, 1).is(140000, "slice", 0);
    }

    @Sentence("or the stock is less.")
    static void meaningTheStockIsLess(Run x) {
        x.does("ship", 0, 0, 10, 0).does("ship", 1, 0, 5, 0).does("ship", 0, 1, 90, 0);
        x.does("pile", 1).refuses(Run.MEANING, "lay", 0, 0, 11).is(10, "stock", 0);
        x.is(0, "pileAt", 0, 2).is(10000, "lay", 0, 0, 10).refuses(Run.MEANING, "lay", 0, 0, 1);
        x.does("tick", 1).refuses(Run.MEANING, "lay", 0, 0, 6).is(15000, "lay", 0, 0, 5);
        x.refuses(Run.MEANING, "lay", 0, 2, 1).is(0, "stock", 0).is(90, "stock", 1);
    }

    /** What another pile took is gone too. */
    @Sentence("or the stock is less.")
    static void meaningTheStockIsOneForAllPiles(Run x) {
        x.does("ship", 0, 0, 10, 0).does("pile", 1).does("pile", 1).does("lay", 0, 0, 7);
        x.refuses(Run.MEANING, "lay", 1, 0, 4).is(3000, "lay", 1, 0, 3);
    }

    @Sentence("Index: no such pile or material; turn: a slice was taken")
    static void indexBeforeTurn(Run x) {
        x.smallYard().does("pile", 2).does("lay", 0, 0, 1).does("slice", 0);
        x.refusesOutside(0, 7, Run.INDEX, 1, "lay", 0, 0, 1);
        x.refusesOutside(0, 0, Run.INDEX, 0, "lay", 0, 0, 1);
    }

    @Sentence("Index: no such pile or material; turn: a slice was taken; range: kilos")
    static void indexBeforeRange(Run x) {
        x.smallYard().does("pile", 2);
        for (int bad : new int[] {0, 1001}) {
            x.refuses(Run.INDEX, "lay", 1, 0, bad).refuses(Run.INDEX, "lay", -1, 0, bad);
            x.refuses(Run.INDEX, "lay", 0, 8, bad).refuses(Run.INDEX, "lay", 0, -1, bad);
        }
    }

    @Sentence("Index: no such pile or material; turn: a slice was taken; range: kilos; meaning:"
            + " there are 20 layers, or the stock is less.")
    static void indexBeforeMeaning(Run x) {
        x.does("ship", 0, 0, 20, 0).does("pile", 2).times(20, "lay", 0, 0, 1);
        x.refuses(Run.INDEX, "lay", 1, 0, 1).refuses(Run.INDEX, "lay", 0, 8, 1);
    }

    @Sentence("turn: a slice was taken; range: kilos")
    static void turnBeforeRange(Run x) {
        x.smallYard().does("pile", 2).does("lay", 0, 0, 1).does("slice", 0);
        x.refusesOutside(1, 1000, Run.TURN, 2, "lay", 0, 0, 1);
    }

    @Sentence("turn: a slice was taken; range: kilos; meaning: there are 20 layers, or the stock is"
            + " less.")
    static void turnBeforeMeaning(Run x) {
        x.does("ship", 0, 0, 22, 0).does("pile", 2).does("pile", 2);
        x.times(20, "lay", 0, 0, 1).does("slice", 0).refuses(Run.TURN, "lay", 0, 0, 1);
        x.does("lay", 1, 0, 1).does("slice", 1).refuses(Run.TURN, "lay", 1, 0, 2);
    }

    @Sentence("range: kilos; meaning: there are 20 layers, or the stock is less.")
    static void rangeBeforeMeaning(Run x) {
        x.does("ship", 0, 0, 21, 0).does("pile", 2).refuses(Run.RANGE, "lay", 0, 0, 1001);
        x.refuses(Run.RANGE, "lay", 0, 1, 0).times(20, "lay", 0, 0, 1);
        x.refusesOutside(1, 1000, Run.RANGE, 2, "lay", 0, 0, 1);
    }
}
