/** Promise 6: pile. */
@Section("Promise 6: pile")
public final class Promise06PileTest {
    public static void main(String[] args) {
        Due.sentencesOf(Promise06PileTest.class);
    }

    @Sentence("One more pile: its number.")
    static void numbersAreFrom0(Run x) {
        x.is(0, "pile", 7).is(1, "pile", 8).is(2, "pile", 9).is(3, "pile", 10);
        x.is(7, "pileAt", 0, 0).is(8, "pileAt", 1, 0).is(9, "pileAt", 2, 0).is(10, "pileAt", 3, 0);
    }

    @Sentence("One more pile: its number.")
    static void aRefusedPileHasNoNumber(Run x) {
        x.is(0, "pile", 7).refuses(Run.RANGE, "pile", 0).refuses(Run.INDEX, "pileAt", 1, 0);
        x.is(1, "pile", 8).is(8, "pileAt", 1, 0);
    }

    @Sentence("One more pile: its number.")
    static void aNewPileIsEmpty(Run x) {
        x.smallYard().does("pile", 1).does("lay", 0, 0, 5).does("slice", 0).is(1, "pile", 6);
        x.is(6, "pileAt", 1, 0);
        for (int what = 1; what < 5; what++) {
            x.is(0, "pileAt", 1, what);
        }
        x.is(1, "pileAt", 0, 0).is(5000, "pileAt", 0, 3);
    }

    @Sentence("Turn: there are 4")
    static void turnThereAre4(Run x) {
        x.times(3, "pile", 2).is(3, "pile", 2).refuses(Run.TURN, "pile", 3);
        x.refuses(Run.TURN, "pile", 3).refuses(Run.INDEX, "pileAt", 4, 0);
    }

    /** A pile of which all slices were taken is a pile still. */
    @Sentence("Turn: there are 4")
    static void turnCountsPilesThatAreUsedUp(Run x) {
        x.smallYard().times(4, "pile", 1);
        for (int pile = 0; pile < 4; pile++) {
            x.does("lay", pile, 0, 1).does("slice", pile);
        }
        x.refuses(Run.TURN, "pile", 1);
    }

    @Sentence("range: slices.")
    static void rangeSlices(Run x) {
        x.refusesOutside(1, 65536, Run.RANGE, 0, "pile", 1).is(0, "pile", 1);
        x.refusesOutside(1, 65536, Run.RANGE, 0, "pile", 1).is(1, "pile", 65536);
        x.is(1, "pileAt", 0, 0).is(65536, "pileAt", 1, 0).refuses(Run.INDEX, "pileAt", 2, 0);
    }

    @Sentence("Turn: there are 4; range: slices.")
    static void turnBeforeRange(Run x) {
        x.times(4, "pile", 2).refusesOutside(1, 65536, Run.TURN, 0, "pile", 1);
    }
}
