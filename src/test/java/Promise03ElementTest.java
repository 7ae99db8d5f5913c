/** Promise 3: element. */
@Section("Promise 3: element")
public final class Promise03ElementTest {
    public static void main(String[] args) {
        Due.sentencesOf(Promise03ElementTest.class);
    }

    @Sentence("A material's share of an element.")
    static void shareOfEachMaterialAndElement(Run x) {
        x.smallYard();
        for (int cell = 0; cell < 32; cell++) {
            x.does("element", cell / 4, cell % 4, 10000 - 100 * cell);
        }
        for (int cell = 4; cell < 32; cell++) {
            // one below the greater share of two: 1 of the 400 between two materials is left
            int aim = 10000 - 100 * (cell - 4) - 1;
            x.fraction(399, 400, "mix", cell / 4 - 1, cell / 4, cell % 4, aim);
        }
    }

    @Sentence("A material's share of an element.")
    static void shareSetAnew(Run x) {
        x.smallYard().does("pile", 1).does("element", 3, 2, 10000).does("element", 3, 2, 1);
        x.does("lay", 0, 3, 1).does("element", 3, 2, 0).does("lay", 0, 3, 1).does("slice", 0);
        x.fraction(1, 2, "share", 0, 2);
    }

    @Sentence("Index: no such material or element")
    static void indexNoSuchMaterial(Run x) {
        x.does("element", 0, 0, 10).does("element", 7, 3, 20);
        x.refusesOutside(0, 7, Run.INDEX, 0, "element", 0, 0, 500);
        x.refusesOutside(0, 7, Run.INDEX, 0, "element", 0, 3, 500);
        x.fraction(1, 10, "mix", 0, 1, 0, 1).fraction(1, 20, "mix", 7, 1, 3, 1);
    }

    @Sentence("Index: no such material or element")
    static void indexNoSuchElement(Run x) {
        x.does("element", 0, 0, 10).does("element", 7, 3, 20);
        x.refusesOutside(0, 3, Run.INDEX, 1, "element", 0, 0, 500);
        x.refusesOutside(0, 3, Run.INDEX, 1, "element", 7, 0, 500);
        x.fraction(1, 10, "mix", 0, 1, 0, 1).fraction(1, 20, "mix", 7, 1, 3, 1);
        x.refuses(Run.MEANING, "mix", 0, 1, 3, 0, 0).refuses(Run.MEANING, "mix", 7, 6, 0, 0, 0);
    }

    @Sentence("range: it.")
    static void rangeOfTheShare(Run x) {
        x.does("element", 0, 0, 10000).refusesOutside(0, 10000, Run.RANGE, 2, "element", 0, 0, 0);
        x.fraction(1, 1, "mix", 0, 1, 0, 10000).does("element", 0, 0, 0);
        x.refusesOutside(0, 10000, Run.RANGE, 2, "element", 0, 0, 0);
        x.refuses(Run.MEANING, "mix", 0, 1, 0, 0, 0);
    }

    @Sentence("Index: no such material or element; range: it.")
    static void indexBeforeRange(Run x) {
        for (int bad : new int[] {-1, 8}) {
            x.refusesOutside(0, 10000, Run.INDEX, 2, "element", bad, 0, 0);
        }
        for (int bad : new int[] {-1, 4}) {
            x.refusesOutside(0, 10000, Run.INDEX, 2, "element", 0, bad, 0);
        }
    }
}
