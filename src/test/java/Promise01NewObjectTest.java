/** Promise 1: A new object. */
@Section("Promise 1: A new object")
public final class Promise01NewObjectTest {
    public static void main(String[] args) {
        Due.sentencesOf(Promise01NewObjectTest.class);
    }

    @Sentence("No ships")
    static void noShips(Run x) {
        for (int material = 0; material < 8; material++) {
            x.is(0, "stock", material);
        }
        x.is(0, "ship", 0, 0, 10, 0).is(1, "ship", 0, 7, 20, 0);
        x.is(10, "stock", 0).is(20, "stock", 7);
    }

    @Sentence("No ships")
    static void noShipsComeOnALaterDay(Run x) {
        x.times(9, "tick", 1000).does("tick", 999);
        for (int material = 0; material < 8; material++) {
            x.is(0, "stock", material);
        }
    }

    @Sentence("no piles")
    static void noPiles(Run x) {
        for (int pile = -1; pile <= 4; pile++) {
            x.refuses(Run.INDEX, "lay", pile, 0, 1).refuses(Run.INDEX, "slice", pile);
            x.refuses(Run.INDEX, "share", pile, 0, 0).refuses(Run.INDEX, "basicity", pile, 0);
            x.refuses(Run.INDEX, "spread", pile, 0, 0).refuses(Run.INDEX, "pileAt", pile, 0);
        }
        x.is(0, "pile", 1);
    }

    @Sentence("no points.")
    static void noPoints(Run x) {
        x.refuses(Run.MEANING, "fit", 0, 0).refuses(Run.MEANING, "fit", 1, 1);
        x.is(1, "point", 0, 0);
    }

    @Sentence("No ships, no piles, no points.")
    static void anotherObjectHasItsOwn(Run x) {
        x.fullYard().times(4, "pile", 1).times(20, "point", 1, 1).does("tick", 1000);
        x.does("moisture", 0, 900).does("element", 0, 0, 10000);
        new Run().is(0, "stock", 0).refuses(Run.INDEX, "pileAt", 0, 0).is(0, "ship", 0, 0, 1, 0)
                .is(0, "pile", 1).is(1000, "lay", 0, 0, 1).does("slice", 0)
                .fraction(0, 1, "share", 0, 0).is(1, "point", 3, 3).is(1, "tick", 1).end();
    }
}
