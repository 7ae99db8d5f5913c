/** Promise 10: basicity. */
@Section("Promise 10: basicity")
public final class Promise10BasicityTest {
    public static void main(String[] args) {
        Due.sentencesOf(Promise10BasicityTest.class);
    }

    /** 100 g and 200 g in 150 slices: 0 and 1, 1 and 1, 1 and 2 grams. */
    @Sentence("The basicity of the latest slice.")
    static void basicityOfTheLatestSlice(Run x) {
        x.smallYard().does("pile", 150).does("moisture", 0, 900).does("element", 0, 0, 30);
        x.does("lay", 0, 0, 1).does("element", 0, 0, 70).does("element", 0, 1, 20);
        x.does("lay", 0, 0, 2).is(1, "slice", 0).fraction(7, 2, "basicity", 0);
        x.is(2, "slice", 0).fraction(5, 1, "basicity", 0);
        x.is(3, "slice", 0).fraction(17, 4, "basicity", 0);
    }

    private static void oneSlice(Run x) {
        x.smallYard().does("element", 0, 0, 3).does("element", 0, 1, 4).does("pile", 2);
        x.does("lay", 0, 0, 1).does("slice", 0);
    }

    @Sentence("Index: no such pile or part")
    static void indexNoSuchPile(Run x) {
        x.refuses(Run.INDEX, "basicity", 0, 0);
        oneSlice(x);
        x.refusesOutside(0, 0, Run.INDEX, 0, "basicity", 0, 0).times(3, "pile", 2);
        x.refusesOutside(0, 3, Run.INDEX, 0, "basicity", 0, 0);
        x.does("lay", 3, 0, 1).does("slice", 3).fraction(3, 4, "basicity", 3);
    }

    @Sentence("Index: no such pile or part")
    static void indexNoSuchPart(Run x) {
        oneSlice(x);
        x.refusesOutside(0, 1, Run.INDEX, 1, "basicity", 0, 0).fraction(3, 4, "basicity", 0);
    }

    @Sentence("turn: none was taken")
    static void turnNoneWasTaken(Run x) {
        x.smallYard().does("pile", 2).does("pile", 2).does("element", 0, 1, 3);
        x.refuses(Run.TURN, "basicity", 0, 0).refuses(Run.TURN, "basicity", 0, 1);
        x.refuses(Run.TURN, "slice", 0).refuses(Run.TURN, "basicity", 0, 0);
        x.does("lay", 0, 0, 1).refuses(Run.TURN, "basicity", 0, 0);
        x.does("lay", 1, 0, 1).does("slice", 1).refuses(Run.TURN, "basicity", 0, 0);
        x.does("slice", 0).fraction(0, 1, "basicity", 0);
    }

    @Sentence("meaning: there is nothing of element 1 in it.")
    static void meaningNoLayerHasElement1(Run x) {
        x.smallYard().does("element", 0, 0, 3).does("element", 0, 2, 3).does("pile", 1);
        x.does("lay", 0, 0, 1).does("slice", 0).refuses(Run.MEANING, "basicity", 0, 0);
        x.refuses(Run.MEANING, "basicity", 0, 1).fraction(3, 1, "share", 0, 0);
    }

    /** The layer with element 1 gives no gram to slice 0, the other one gives 6. */
    @Sentence("meaning: there is nothing of element 1 in it.")
    static void meaningTheLayerWithElement1GivesNothing(Run x) {
        x.smallYard().does("pile", 150).does("moisture", 0, 900).does("element", 0, 1, 10000);
        x.does("element", 1, 0, 1).does("lay", 0, 0, 1).does("lay", 0, 1, 1);
        x.is(6, "slice", 0).refuses(Run.MEANING, "basicity", 0, 0);
        x.is(8, "slice", 0).fraction(7, 10000, "basicity", 0);
    }

    @Sentence("meaning: there is nothing of element 1 in it.")
    static void meaningTheSliceIsEmpty(Run x) {
        x.smallYard().does("pile", 200).does("moisture", 2, 900).does("element", 2, 1, 4);
        x.does("lay", 0, 2, 1).is(0, "slice", 0).refuses(Run.MEANING, "basicity", 0, 0);
        x.is(1, "slice", 0).fraction(0, 1, "basicity", 0);
        x.is(0, "slice", 0).refuses(Run.MEANING, "basicity", 0, 0);
    }

    @Sentence("meaning: there is nothing of element 1 in it.")
    static void theLeastOfElement1IsEnough(Run x) {
        x.smallYard().does("pile", 100).does("moisture", 0, 900).does("element", 0, 1, 1);
        x.does("element", 0, 0, 10000).does("lay", 0, 0, 1).is(1, "slice", 0);
        x.fraction(10000, 1, "basicity", 0);
    }

    @Sentence("Index: no such pile or part; turn: none was taken")
    static void indexBeforeTurn(Run x) {
        x.does("pile", 2).refusesOutside(0, 0, Run.INDEX, 0, "basicity", 0, 0);
        x.refusesOutside(0, 1, Run.INDEX, 1, "basicity", 0, 0);
    }

    @Sentence("Index: no such pile or part; turn: none was taken; meaning: there is nothing of"
            + " element 1 in it.")
    static void indexBeforeMeaning(Run x) {
        x.smallYard().does("pile", 2).does("lay", 0, 0, 1).does("slice", 0);
        x.refusesOutside(0, 1, Run.INDEX, 1, "basicity", 0, 0);
        x.refusesOutside(0, 0, Run.INDEX, 0, "basicity", 0, 0);
    }

    @Sentence("turn: none was taken; meaning: there is nothing of element 1 in it.")
    static void turnBeforeMeaning(Run x) {
        x.smallYard().does("pile", 2).does("lay", 0, 0, 1).refuses(Run.TURN, "basicity", 0, 0);
        x.does("slice", 0).refuses(Run.MEANING, "basicity", 0, 0);
    }
}
