/** Promise 8: slice. */
@Section("Promise 8: slice")
public final class Promise08SliceTest {
    public static void main(String[] args) {
        Due.sentencesOf(Promise08SliceTest.class);
    }

    @Sentence("Takes the next slice: its grams.")
    static void takesTheNextSlice(Run x) {
        x.smallYard().does("pile", 3).does("pile", 2).does("lay", 0, 0, 1).does("lay", 0, 1, 1);
        x.does("lay", 1, 2, 9).is(666, "slice", 0).is(4500, "slice", 1).is(666, "slice", 0);
        x.is(668, "slice", 0).is(4500, "slice", 1).is(2000, "pileAt", 0, 4);
    }

    @Sentence("Index: no such pile")
    static void indexNoSuchPile(Run x) {
        x.smallYard().refuses(Run.INDEX, "slice", 0).does("pile", 2).does("lay", 0, 0, 1);
        x.refusesOutside(0, 0, Run.INDEX, 0, "slice", 0).times(3, "pile", 2);
        x.refusesOutside(0, 3, Run.INDEX, 0, "slice", 0);
        x.does("lay", 3, 0, 1).is(500, "slice", 3).is(500, "slice", 0);
    }

    @Sentence("turn: it has no layers")
    static void turnItHasNoLayers(Run x) {
        x.smallYard().does("pile", 2).does("pile", 2).does("lay", 1, 0, 1);
        x.refuses(Run.TURN, "slice", 0).is(0, "pileAt", 0, 1).is(0, "pileAt", 0, 4);
        x.refuses(Run.TURN, "share", 0, 0, 0).does("lay", 0, 0, 1).is(500, "slice", 0);
    }

    @Sentence("or all slices were taken.")
    static void turnAllSlicesWereTaken(Run x) {
        x.smallYard().does("element", 0, 0, 7).does("pile", 3).does("lay", 0, 0, 1);
        x.is(333, "slice", 0).is(333, "slice", 0).is(334, "slice", 0);
        x.refuses(Run.TURN, "slice", 0).refuses(Run.TURN, "slice", 0);
        x.is(3, "pileAt", 0, 1).is(1000, "pileAt", 0, 4).fraction(7, 1, "share", 0, 0);
    }

    @Sentence("or all slices were taken.")
    static void turnTheOneSliceWasTaken(Run x) {
        x.smallYard().does("pile", 1).does("pile", 1).does("lay", 0, 0, 1).does("lay", 1, 0, 1);
        x.is(1000, "slice", 0).refuses(Run.TURN, "slice", 0).is(1000, "slice", 1);
    }

    @Sentence("or all slices were taken.")
    static void turnAllOfManySlicesWereTaken(Run x) {
        x.smallYard().does("pile", 250).does("lay", 0, 0, 1).times(250, "slice", 0);
        x.refuses(Run.TURN, "slice", 0).is(250, "pileAt", 0, 1);
    }

    /** 100 grams over 200 slices: every other slice is empty, and is a slice all the same. */
    @Sentence("or all slices were taken.")
    static void anEmptySliceCanBeTaken(Run x) {
        x.smallYard().does("moisture", 0, 900).does("pile", 200).does("lay", 0, 0, 1);
        for (int k = 0; k < 200; k++) {
            x.is(k % 2, "slice", 0);
        }
        x.refuses(Run.TURN, "slice", 0).is(100, "pileAt", 0, 4);
    }

    @Sentence("Index: no such pile; turn: it has no layers, or all slices were taken.")
    static void indexBeforeTurn(Run x) {
        x.does("pile", 2).refuses(Run.TURN, "slice", 0).refuses(Run.INDEX, "slice", 1);
    }
}
