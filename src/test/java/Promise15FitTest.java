/** Promise 15: fit. */
@Section("Promise 15: fit")
public final class Promise15FitTest {
    public static void main(String[] args) {
        Due.sentencesOf(Promise15FitTest.class);
    }

    @Sentence("The fit: what 0 the slope, 1 the height.")
    static void what0TheSlope1TheHeight(Run x) {
        x.does("point", 0, 7).does("point", 2, 10);
        x.fraction(3, 2, "fit", 0).fraction(7, 1, "fit", 1);
        x.does("point", 10, 1).fraction(-3, 4, "fit", 0).fraction(9, 1, "fit", 1);
    }

    /** One point against nineteen: the line goes through both heaps. */
    @Sentence("The fit: what 0 the slope, 1 the height.")
    static void fitOf20Points(Run x) {
        x.does("point", 0, 10000).times(19, "point", 10000, 0);
        x.fraction(-1, 1, "fit", 0).fraction(10000, 1, "fit", 1);
    }

    @Sentence("Index: no such what or part")
    static void indexNoSuchWhat(Run x) {
        x.does("point", 0, 3).does("point", 2, 4);
        x.refusesOutside(0, 1, Run.INDEX, 0, "fit", 0, 0);
        x.refusesOutside(0, 1, Run.INDEX, 0, "fit", 0, 1);
        x.fraction(1, 2, "fit", 0).fraction(3, 1, "fit", 1);
    }

    @Sentence("Index: no such what or part")
    static void indexNoSuchPart(Run x) {
        x.does("point", 0, 3).does("point", 2, 4);
        x.refusesOutside(0, 1, Run.INDEX, 1, "fit", 0, 0);
        x.refusesOutside(0, 1, Run.INDEX, 1, "fit", 1, 0);
        x.fraction(1, 2, "fit", 0).fraction(3, 1, "fit", 1);
    }

    @Sentence("meaning: it can't be.")
    static void meaningItCantBe(Run x) {
        for (int count = 0; count < 3; count++) {
            x.refuses(Run.MEANING, "fit", 0, 0).refuses(Run.MEANING, "fit", 0, 1);
            x.refuses(Run.MEANING, "fit", 1, 0).refuses(Run.MEANING, "fit", 1, 1);
            x.does("point", 5, 5 + count);
        }
        x.refuses(Run.MEANING, "fit", 0, 0).does("point", 6, 6);
        x.fraction(0, 1, "fit", 0).fraction(6, 1, "fit", 1);
    }

    @Sentence("Index: no such what or part; meaning: it can't be.")
    static void indexBeforeMeaning(Run x) {
        x.refusesOutside(0, 1, Run.INDEX, 0, "fit", 0, 0);
        x.refusesOutside(0, 1, Run.INDEX, 1, "fit", 0, 0);
    }
}
