/** Terms, first part: the order of the checks, what is refused, how fractions are told. */
@Section("Terms")
public final class TermsChecksTest {
    public static void main(String[] args) {
        Due.sentencesOf(TermsChecksTest.class);
    }

    /** Of lay, the one call with all four checks: faults of all kinds, mended one by one. */
    @Sentence("Checks are made in this order: index: IndexOutOfBoundsException;"
            + " call out of turn: IllegalStateException; range: IllegalArgumentException;"
            + " meaning (what can't be, no room): UnsupportedOperationException.")
    static void allFourInTheirOrder(Run x) {
        x.does("ship", 0, 0, 40, 0).does("pile", 9).does("pile", 9);
        x.times(20, "lay", 0, 0, 1).times(20, "lay", 1, 0, 1).does("slice", 0);
        x.refuses(Run.INDEX, "lay", 2, 8, 0);
        x.refuses(Run.INDEX, "lay", 0, 8, 0);
        x.refuses(Run.TURN, "lay", 0, 0, 0);
        x.refuses(Run.RANGE, "lay", 1, 0, 0);
        x.refuses(Run.MEANING, "lay", 1, 0, 1);
    }

    @Sentence("index: IndexOutOfBoundsException; call out of turn: IllegalStateException")
    static void indexBeforeTurn(Run x) {
        x.fullYard().does("pile", 2).refuses(Run.INDEX, "ship", 0, 8, 1, 0);
        x.refuses(Run.INDEX, "share", 0, 4, 0).refuses(Run.INDEX, "share", 0, 0, 2);
        x.refuses(Run.INDEX, "basicity", 0, 2);
        x.refuses(Run.INDEX, "spread", 0, 4, 0).refuses(Run.INDEX, "spread", 0, 0, 2);
        x.does("lay", 0, 0, 1).does("slice", 0).refuses(Run.INDEX, "lay", 0, 8, 1);
    }

    @Sentence("index: IndexOutOfBoundsException; call out of turn: IllegalStateException;"
            + " range: IllegalArgumentException")
    static void indexBeforeRange(Run x) {
        x.does("pile", 2);
        x.refuses(Run.INDEX, "moisture", 8, 901).refuses(Run.INDEX, "element", 8, 0, 10001);
        x.refuses(Run.INDEX, "element", 0, 4, 10001).refuses(Run.INDEX, "ship", -1, 8, 0, 1000);
        x.refuses(Run.INDEX, "lay", 1, 0, 0).refuses(Run.INDEX, "lay", 0, 8, 0);
        x.refuses(Run.INDEX, "mix", 0, 0, 0, -1, 0).refuses(Run.INDEX, "mix", 0, 1, 4, -1, 0);
    }

    @Sentence("Checks are made in this order: index: IndexOutOfBoundsException")
    static void indexBeforeMeaning(Run x) {
        x.refuses(Run.INDEX, "mix", 0, 0, 0, 0, 0).refuses(Run.INDEX, "mix", 0, 1, 0, 0, 2);
        x.refuses(Run.INDEX, "fit", 2, 0).refuses(Run.INDEX, "fit", 0, 2);
        x.does("ship", 0, 0, 1, 0).does("moisture", 0, 900).does("pile", 101);
        x.refuses(Run.INDEX, "lay", 1, 0, 2);
        x.does("lay", 0, 0, 1).is(0, "slice", 0);
        x.refuses(Run.INDEX, "share", 0, 4, 0).refuses(Run.INDEX, "share", 0, 0, 2);
        x.refuses(Run.INDEX, "basicity", 0, 2);
    }

    @Sentence("call out of turn: IllegalStateException; range: IllegalArgumentException")
    static void turnBeforeRange(Run x) {
        x.fullYard().times(4, "pile", 2).times(20, "point", 1, 1);
        x.refuses(Run.TURN, "ship", -1, 0, 0, 1000);
        x.refuses(Run.TURN, "pile", 0);
        x.refuses(Run.TURN, "point", -1, 10001);
        x.does("lay", 0, 0, 1).does("slice", 0).refuses(Run.TURN, "lay", 0, 0, 0);
    }

    @Sentence("call out of turn: IllegalStateException; range: IllegalArgumentException;"
            + " meaning (what can't be, no room): UnsupportedOperationException.")
    static void turnBeforeMeaning(Run x) {
        x.does("ship", 0, 0, 20, 0).does("moisture", 0, 900).does("pile", 101);
        x.refuses(Run.TURN, "share", 0, 0, 0).refuses(Run.TURN, "basicity", 0, 0);
        x.times(20, "lay", 0, 0, 1).does("slice", 0);
        x.refuses(Run.TURN, "lay", 0, 0, 1);
    }

    @Sentence("range: IllegalArgumentException;"
            + " meaning (what can't be, no room): UnsupportedOperationException.")
    static void rangeBeforeMeaning(Run x) {
        x.refuses(Run.RANGE, "mix", 0, 1, 0, 10001, 0);
        x.does("ship", 0, 0, 20, 0).does("pile", 1);
        x.refuses(Run.RANGE, "lay", 0, 0, 1001).refuses(Run.RANGE, "lay", 0, 1, 0);
        x.times(20, "lay", 0, 0, 1).refuses(Run.RANGE, "lay", 0, 0, 0);
    }

    @Sentence("meaning (what can't be, no room): UnsupportedOperationException.")
    static void meaningWhatCantBe(Run x) {
        x.refuses(Run.MEANING, "mix", 0, 1, 0, 0, 0).refuses(Run.MEANING, "fit", 0, 0);
        x.does("ship", 0, 0, 1, 0).does("moisture", 0, 900).does("pile", 101);
        x.refuses(Run.MEANING, "lay", 0, 0, 2);
        x.does("lay", 0, 0, 1).is(0, "slice", 0);
        x.refuses(Run.MEANING, "share", 0, 0, 0).refuses(Run.MEANING, "basicity", 0, 0);
    }

    @Sentence("meaning (what can't be, no room): UnsupportedOperationException.")
    static void meaningNoRoom(Run x) {
        x.does("ship", 0, 0, 21, 0).does("pile", 1).times(20, "lay", 0, 0, 1);
        x.refuses(Run.MEANING, "lay", 0, 0, 1);
    }

    @Sentence("What is refused changes nothing.")
    static void refusedOnANewObject(Run x) {
        everyRefusalOfIndex(x);
        everyRefusalOfRange(x);
        x.refuses(Run.MEANING, "mix", 0, 1, 0, 0, 0).refuses(Run.MEANING, "fit", 0, 0);
        for (int material = 0; material < 8; material++) {
            x.is(0, "stock", material);
        }
        x.is(0, "ship", 0, 0, 1, 0).is(0, "pile", 1).is(1, "point", 0, 0).is(1, "tick", 1);
    }

    /** Layers on pile 0, a slice with grams and then an empty one of pile 1, ships to come. */
    private static void halfUsed(Run x) {
        x.smallYard().does("ship", 7, 3, 100, 10).does("tick", 3).does("point", 1, 5);
        x.does("point", 4, 2).does("moisture", 2, 900).does("element", 2, 1, 300);
        x.does("element", 3, 1, 20).does("element", 3, 0, 10).does("moisture", 3, 55);
        x.does("pile", 4).does("pile", 150);
        x.does("lay", 0, 2, 20).does("lay", 0, 3, 7).does("lay", 1, 2, 1);
        x.is(0, "slice", 1).is(1, "slice", 1).is(1, "slice", 1).is(0, "slice", 1);
    }

    @Sentence("What is refused changes nothing.")
    static void refusedOnAHalfUsedObject(Run x) {
        halfUsed(x);
        everyRefusalOfIndex(x);
        everyRefusalOfRange(x);
        x.refuses(Run.RANGE, "ship", 2, 3, 1, 0).refuses(Run.RANGE, "lay", 0, 3, 0);
        x.refuses(Run.TURN, "lay", 1, 3, 1).refuses(Run.MEANING, "lay", 0, 3, 494);
        x.refuses(Run.MEANING, "share", 1, 1, 0).refuses(Run.MEANING, "basicity", 1, 0);
        x.is(493, "stock", 3).is(479, "stock", 2).is(2, "pileAt", 0, 2).is(8615, "pileAt", 0, 3);
        x.is(4, "pileAt", 1, 1).is(2, "pileAt", 1, 4).is(4, "tick", 1);
        x.fraction(-1, 1, "fit", 0).fraction(6, 1, "fit", 1);
    }

    @Sentence("What is refused changes nothing.")
    static void refusedOnAFullObject(Run x) {
        x.fullYard().times(9, "tick", 1000).does("tick", 999);
        x.times(4, "pile", 2).times(20, "point", 1, 1).times(20, "lay", 0, 1, 1);
        x.does("lay", 1, 2, 3).does("slice", 1).does("slice", 1);
        x.refuses(Run.TURN, "ship", 9999, 0, 1, 0).refuses(Run.TURN, "pile", 2);
        x.refuses(Run.TURN, "point", 2, 2).refuses(Run.RANGE, "tick", 1);
        x.refuses(Run.MEANING, "lay", 0, 1, 1).refuses(Run.TURN, "lay", 1, 1, 1);
        x.refuses(Run.TURN, "slice", 1).refuses(Run.TURN, "slice", 2);
        x.refuses(Run.MEANING, "fit", 0, 0);
        x.is(5000, "stock", 0).is(4980, "stock", 1).is(4997, "stock", 2);
        x.is(20, "pileAt", 0, 2).is(1, "pileAt", 1, 2).is(2, "pileAt", 1, 1);
        x.is(3000, "pileAt", 1, 4).is(0, "pileAt", 2, 1).fraction(0, 1, "share", 1, 0);
    }

    private static void everyRefusalOfIndex(Run x) {
        x.refuses(Run.INDEX, "moisture", -1, 5).refuses(Run.INDEX, "element", 8, 0, 5);
        x.refuses(Run.INDEX, "element", 0, 4, 5).refuses(Run.INDEX, "ship", 5, -1, 5, 5);
        x.refuses(Run.INDEX, "stock", 8).refuses(Run.INDEX, "lay", 3, 2, 5);
        x.refuses(Run.INDEX, "slice", 3).refuses(Run.INDEX, "share", 3, 0, 0);
        x.refuses(Run.INDEX, "basicity", 3, 0).refuses(Run.INDEX, "spread", 3, 0, 0);
        x.refuses(Run.INDEX, "pileAt", 3, 0).refuses(Run.INDEX, "mix", 2, 2, 0, 5, 0);
        x.refuses(Run.INDEX, "fit", 2, 0);
    }

    private static void everyRefusalOfRange(Run x) {
        x.refuses(Run.RANGE, "moisture", 2, 901).refuses(Run.RANGE, "element", 2, 1, 10001);
        x.refuses(Run.RANGE, "ship", 10000, 2, 5, 5).refuses(Run.RANGE, "ship", 5, 2, 1001, 5);
        x.refuses(Run.RANGE, "ship", 5, 2, 5, 1000).refuses(Run.RANGE, "pile", 65537);
        x.refuses(Run.RANGE, "mix", 2, 3, 0, -1, 0).refuses(Run.RANGE, "point", 10001, 0);
        x.refuses(Run.RANGE, "point", 0, -1).refuses(Run.RANGE, "tick", 1001);
    }

    @Sentence("All fractions are told in lowest terms")
    static void fractionsOfSlicesInLowestTerms(Run x) {
        x.smallYard().does("element", 0, 0, 6).does("element", 0, 1, 4).does("pile", 2);
        x.does("element", 1, 1, 2).does("moisture", 2, 500).does("element", 2, 0, 1);
        x.does("lay", 0, 0, 1).does("lay", 0, 1, 1).is(1000, "slice", 0);
        x.fraction(3, 1, "share", 0, 0).fraction(3, 1, "share", 0, 1);
        x.fraction(1, 1, "basicity", 0).fraction(0, 1, "spread", 0, 0);
        // of 101 and 201 grams slice 0 takes 8 and 16, slice 1 takes 8 and 17
        x.does("pile", 12).does("moisture", 0, 899).does("moisture", 1, 799);
        x.does("lay", 1, 0, 1).does("lay", 1, 1, 1).is(24, "slice", 1);
        x.fraction(2, 1, "share", 1, 0).fraction(8, 3, "share", 1, 1);
        x.fraction(3, 4, "basicity", 1).is(25, "slice", 1).fraction(48, 25, "share", 1, 0);
        x.fraction(2, 25, "spread", 1, 0);
    }

    @Sentence("All fractions are told in lowest terms")
    static void mixesAndFitsInLowestTerms(Run x) {
        x.does("element", 0, 2, 600).does("element", 1, 2, 200);
        x.fraction(1, 4, "mix", 0, 1, 2, 300).fraction(1, 400, "mix", 0, 1, 2, 201);
        x.does("point", 0, 2).does("point", 6, 6).fraction(2, 3, "fit", 0).fraction(2, 1, "fit", 1);
        x.does("point", 3, 4).fraction(2, 3, "fit", 0).fraction(2, 1, "fit", 1);
    }

    @Sentence("the lower number above 0")
    static void theLowerNumberOfNoughtIs1(Run x) {
        x.smallYard().does("pile", 2).does("lay", 0, 0, 2).does("slice", 0);
        x.fraction(0, 1, "share", 0, 3).fraction(0, 1, "spread", 0, 3);
        x.does("element", 1, 1, 5).does("pile", 2).does("lay", 1, 1, 2).does("slice", 1);
        x.fraction(0, 1, "basicity", 1).fraction(0, 1, "mix", 1, 0, 1, 0);
        x.does("point", 2, 0).does("point", 8, 0);
        x.fraction(0, 1, "fit", 0).fraction(0, 1, "fit", 1);
    }

    @Sentence("the lower number above 0")
    static void theSignIsTheUpperNumbers(Run x) {
        x.does("point", 0, 7).does("point", 2, 4);
        x.fraction(-3, 2, "fit", 0).fraction(7, 1, "fit", 1);
        x.does("element", 1, 0, 9);
        x.fraction(7, 9, "mix", 0, 1, 0, 2).fraction(2, 9, "mix", 1, 0, 0, 2);
    }

    @Sentence("the lower number above 0")
    static void aHeightBelow0(Run x) {
        x.does("point", 3, 0).does("point", 7, 5);
        x.fraction(5, 4, "fit", 0).fraction(-15, 4, "fit", 1);
    }

    @Sentence("part 0 the upper, 1 the lower number.")
    static void parts0And1AndNoOther(Run x) {
        x.smallYard().does("element", 0, 0, 3).does("element", 0, 1, 7).does("pile", 3);
        x.does("lay", 0, 0, 1).does("lay", 0, 1, 1).does("slice", 0);
        x.does("point", 1, 1).does("point", 4, 2);
        x.is(3, "share", 0, 0, 0).is(2, "share", 0, 0, 1);
        x.is(3, "basicity", 0, 0).is(7, "basicity", 0, 1);
        x.is(0, "spread", 0, 0, 0).is(1, "spread", 0, 0, 1);
        x.is(2, "mix", 0, 1, 0, 2, 0).is(3, "mix", 0, 1, 0, 2, 1);
        x.is(1, "fit", 0, 0).is(3, "fit", 0, 1);
        x.refusesOutside(0, 1, Run.INDEX, 2, "share", 0, 0, 0);
        x.refusesOutside(0, 1, Run.INDEX, 1, "basicity", 0, 0);
        x.refusesOutside(0, 1, Run.INDEX, 2, "spread", 0, 0, 0);
        x.refusesOutside(0, 1, Run.INDEX, 4, "mix", 0, 1, 0, 2, 0);
        x.refusesOutside(0, 1, Run.INDEX, 1, "fit", 0, 0);
    }
}
