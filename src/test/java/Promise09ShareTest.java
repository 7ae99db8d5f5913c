/** Promise 9: share. */
@Section("Promise 9: share")
public final class Promise09ShareTest {
    public static void main(String[] args) {
        Due.sentencesOf(Promise09ShareTest.class);
    }

    /** 100 g and 200 g in 150 slices: 0 and 1, 1 and 1, 1 and 2 grams. */
    @Sentence("The share of an element in the latest slice.")
    static void shareInTheLatestSlice(Run x) {
        x.smallYard().does("pile", 150).does("moisture", 0, 900).does("element", 0, 0, 30);
        x.does("lay", 0, 0, 1).does("element", 0, 0, 70).does("element", 0, 3, 1);
        x.does("lay", 0, 0, 2).is(1, "slice", 0);
        x.fraction(70, 1, "share", 0, 0).fraction(1, 1, "share", 0, 3).is(2, "slice", 0);
        x.fraction(50, 1, "share", 0, 0).fraction(1, 2, "share", 0, 3).is(3, "slice", 0);
        x.fraction(170, 3, "share", 0, 0).fraction(2, 3, "share", 0, 3);
        x.fraction(0, 1, "share", 0, 1).fraction(0, 1, "share", 0, 2);
    }

    @Sentence("The share of an element in the latest slice.")
    static void eachPileHasItsLatestSlice(Run x) {
        x.smallYard().does("pile", 2).does("pile", 2).does("element", 0, 0, 3);
        x.does("element", 1, 0, 5).does("lay", 0, 0, 1).does("lay", 1, 1, 1);
        x.does("slice", 0).does("slice", 1);
        x.fraction(3, 1, "share", 0, 0).fraction(5, 1, "share", 1, 0);
    }

    private static void oneSlice(Run x) {
        x.smallYard().does("element", 0, 0, 3).does("element", 0, 3, 4).does("pile", 2);
        x.does("lay", 0, 0, 1).does("slice", 0);
    }

    @Sentence("Index: no such pile, element or part")
    static void indexNoSuchPile(Run x) {
        x.refuses(Run.INDEX, "share", 0, 0, 0);
        oneSlice(x);
        x.refusesOutside(0, 0, Run.INDEX, 0, "share", 0, 0, 0).times(3, "pile", 2);
        x.refusesOutside(0, 3, Run.INDEX, 0, "share", 0, 0, 0);
        x.does("lay", 3, 0, 1).does("slice", 3).fraction(3, 1, "share", 3, 0);
    }

    @Sentence("Index: no such pile, element or part")
    static void indexNoSuchElement(Run x) {
        oneSlice(x);
        x.refusesOutside(0, 3, Run.INDEX, 1, "share", 0, 0, 0);
        x.refusesOutside(0, 3, Run.INDEX, 1, "share", 0, 0, 1);
        x.fraction(3, 1, "share", 0, 0).fraction(4, 1, "share", 0, 3);
    }

    @Sentence("Index: no such pile, element or part")
    static void indexNoSuchPart(Run x) {
        oneSlice(x);
        x.refusesOutside(0, 1, Run.INDEX, 2, "share", 0, 0, 0).fraction(3, 1, "share", 0, 0);
    }

    @Sentence("turn: none was taken")
    static void turnNoneWasTaken(Run x) {
        x.smallYard().does("pile", 2).does("pile", 2).does("element", 0, 0, 3);
        x.refuses(Run.TURN, "share", 0, 0, 0).refuses(Run.TURN, "share", 0, 0, 1);
        x.refuses(Run.TURN, "slice", 0).refuses(Run.TURN, "share", 0, 0, 0);
        x.does("lay", 0, 0, 1).refuses(Run.TURN, "share", 0, 0, 0);
        x.does("lay", 1, 0, 1).does("slice", 1).refuses(Run.TURN, "share", 0, 0, 0);
        x.does("slice", 0).fraction(3, 1, "share", 0, 0);
    }

    @Sentence("meaning: it had no grams.")
    static void meaningItHadNoGrams(Run x) {
        x.smallYard().does("pile", 200).does("moisture", 0, 900).does("element", 0, 1, 7);
        x.does("lay", 0, 0, 1).is(0, "slice", 0);
        for (int element = 0; element < 4; element++) {
            x.refuses(Run.MEANING, "share", 0, element, 0);
            x.refuses(Run.MEANING, "share", 0, element, 1);
        }
        x.is(1, "slice", 0).fraction(7, 1, "share", 0, 1).is(0, "slice", 0);
        x.refuses(Run.MEANING, "share", 0, 1, 0).is(1, "slice", 0).fraction(7, 1, "share", 0, 1);
    }

    @Sentence("meaning: it had no grams.")
    static void ofOneGramAndNothingInItThereIsAShare(Run x) {
        x.smallYard().does("pile", 100).does("moisture", 0, 900).does("lay", 0, 0, 1);
        x.is(1, "slice", 0).fraction(0, 1, "share", 0, 0);
    }

    @Sentence("Index: no such pile, element or part; turn: none was taken")
    static void indexBeforeTurn(Run x) {
        x.does("pile", 2).refusesOutside(0, 0, Run.INDEX, 0, "share", 0, 0, 0);
        x.refusesOutside(0, 3, Run.INDEX, 1, "share", 0, 0, 0);
        x.refusesOutside(0, 1, Run.INDEX, 2, "share", 0, 0, 0);
    }

    @Sentence("Index: no such pile, element or part; turn: none was taken; meaning: it had no"
            + " grams.")
    static void indexBeforeMeaning(Run x) {
        x.smallYard().does("pile", 200).does("moisture", 0, 900).does("lay", 0, 0, 1);
        x.is(0, "slice", 0).refusesOutside(0, 3, Run.INDEX, 1, "share", 0, 0, 0);
        x.refusesOutside(0, 1, Run.INDEX, 2, "share", 0, 0, 0);
    }

    /** No slice has grams as long as none was taken: it is out of turn all the same. */
    @Sentence("turn: none was taken; meaning: it had no grams.")
    static void turnBeforeMeaning(Run x) {
        x.smallYard().does("pile", 200).does("moisture", 0, 900).does("lay", 0, 0, 1);
        x.refuses(Run.TURN, "share", 0, 0, 0).is(0, "slice", 0);
        x.refuses(Run.MEANING, "share", 0, 0, 0);
    }
}
