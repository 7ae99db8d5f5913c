/** Promise 11: spread. */
@Section("Promise 11: spread")
public final class Promise11SpreadTest {
    public static void main(String[] args) {
        Due.sentencesOf(Promise11SpreadTest.class);
    }

    /** 100 g and 1,000 g in 3 slices: 33 and 333, 33 and 333, 34 and 334 grams. */
    @Sentence("The spread of an element.")
    static void spreadOfEachElement(Run x) {
        x.smallYard().does("pile", 3).does("moisture", 0, 900).does("element", 0, 0, 500);
        x.does("element", 1, 0, 800).does("element", 0, 2, 3).does("element", 1, 2, 3);
        x.does("element", 1, 3, 368).does("lay", 0, 0, 1).does("lay", 0, 1, 1);
        x.does("slice", 0).does("slice", 0).fraction(0, 1, "spread", 0, 0).does("slice", 0);
        // 282,900 over 366 less 284,200 over 368
        x.fraction(1875, 2806, "spread", 0, 0).fraction(0, 1, "spread", 0, 1);
        x.fraction(0, 1, "spread", 0, 2).fraction(50, 61, "spread", 0, 3);
    }

    @Sentence("The spread of an element.")
    static void eachPileHasItsSpread(Run x) {
        x.smallYard().does("pile", 150).does("pile", 1).does("moisture", 0, 900);
        x.does("element", 0, 1, 1).does("lay", 0, 0, 1).does("lay", 1, 0, 1);
        x.does("element", 0, 1, 0).does("lay", 0, 0, 2).does("slice", 0).does("slice", 0);
        x.does("slice", 1).fraction(1, 2, "spread", 0, 1).fraction(0, 1, "spread", 1, 1);
    }

    private static void oneSlice(Run x) {
        x.smallYard().does("pile", 2).does("lay", 0, 0, 1).does("slice", 0);
    }

    @Sentence("Index: no such pile, element or part")
    static void indexNoSuchPile(Run x) {
        x.refuses(Run.INDEX, "spread", 0, 0, 0);
        oneSlice(x);
        x.refusesOutside(0, 0, Run.INDEX, 0, "spread", 0, 0, 0).times(3, "pile", 2);
        x.refusesOutside(0, 3, Run.INDEX, 0, "spread", 0, 0, 0);
        x.does("lay", 3, 0, 1).does("slice", 3).fraction(0, 1, "spread", 3, 0);
    }

    @Sentence("Index: no such pile, element or part")
    static void indexNoSuchElement(Run x) {
        oneSlice(x);
        x.refusesOutside(0, 3, Run.INDEX, 1, "spread", 0, 0, 0);
        x.fraction(0, 1, "spread", 0, 0).fraction(0, 1, "spread", 0, 3);
    }

    @Sentence("Index: no such pile, element or part")
    static void indexNoSuchPart(Run x) {
        oneSlice(x);
        x.refusesOutside(0, 1, Run.INDEX, 2, "spread", 0, 0, 0).fraction(0, 1, "spread", 0, 0);
    }

    @Sentence("turn: no slice with grams was taken.")
    static void turnNoSliceWasTaken(Run x) {
        x.smallYard().does("pile", 2).does("pile", 2).refuses(Run.TURN, "spread", 0, 0, 0);
        x.refuses(Run.TURN, "slice", 0).refuses(Run.TURN, "spread", 0, 0, 0);
        x.does("lay", 0, 0, 1).refuses(Run.TURN, "spread", 0, 0, 1);
        x.does("lay", 1, 0, 1).does("slice", 1).refuses(Run.TURN, "spread", 0, 0, 0);
        x.does("slice", 0).fraction(0, 1, "spread", 0, 0);
    }

    /** 100 grams over 300 slices: the third slice has the first gram. */
    @Sentence("turn: no slice with grams was taken.")
    static void turnOnlyEmptySlicesWereTaken(Run x) {
        x.smallYard().does("pile", 300).does("moisture", 0, 900).does("lay", 0, 0, 1);
        x.is(0, "slice", 0).refuses(Run.TURN, "spread", 0, 0, 0);
        x.is(0, "slice", 0).refuses(Run.TURN, "spread", 0, 3, 1);
        x.is(1, "slice", 0).fraction(0, 1, "spread", 0, 0).fraction(0, 1, "spread", 0, 3);
        x.is(0, "slice", 0).fraction(0, 1, "spread", 0, 0);
    }

    @Sentence("Index: no such pile, element or part; turn: no slice with grams was taken.")
    static void indexBeforeTurn(Run x) {
        x.does("pile", 2).refusesOutside(0, 0, Run.INDEX, 0, "spread", 0, 0, 0);
        x.refusesOutside(0, 3, Run.INDEX, 1, "spread", 0, 0, 0);
        x.refusesOutside(0, 1, Run.INDEX, 2, "spread", 0, 0, 0);
    }
}
