/** Promise 13: mix. */
@Section("Promise 13: mix")
public final class Promise13MixTest {
    public static void main(String[] args) {
        Due.sentencesOf(Promise13MixTest.class);
    }

    @Sentence("A mix.")
    static void mixOfTheFirstAndTheLast(Run x) {
        x.does("element", 0, 0, 100).does("element", 7, 3, 40);
        x.fraction(1, 4, "mix", 0, 7, 0, 25).fraction(3, 4, "mix", 7, 0, 0, 25);
        x.fraction(5, 8, "mix", 7, 0, 3, 25).fraction(3, 8, "mix", 0, 7, 3, 25);
    }

    @Sentence("A mix.")
    static void mixAtTheEndsOfTheShares(Run x) {
        x.does("element", 0, 1, 10000);
        x.fraction(0, 1, "mix", 0, 1, 1, 0).fraction(1, 10000, "mix", 0, 1, 1, 1);
        x.fraction(9999, 10000, "mix", 0, 1, 1, 9999).fraction(1, 1, "mix", 0, 1, 1, 10000);
        x.fraction(1, 1, "mix", 1, 0, 1, 0).fraction(9999, 10000, "mix", 1, 0, 1, 1);
        x.fraction(1, 10000, "mix", 1, 0, 1, 9999).fraction(0, 1, "mix", 1, 0, 1, 10000);
    }

    @Sentence("Index: no such materials (or they are one), element or part")
    static void indexNoSuchMaterials(Run x) {
        x.does("element", 0, 0, 100).does("element", 7, 0, 50);
        x.refusesOutside(0, 7, Run.INDEX, 0, "mix", 0, 1, 0, 40, 0);
        x.refusesOutside(0, 7, Run.INDEX, 1, "mix", 0, 1, 0, 40, 0);
        x.refuses(Run.INDEX, "mix", -1, 8, 0, 40, 0).refuses(Run.INDEX, "mix", 8, 8, 0, 40, 0);
        x.fraction(2, 5, "mix", 0, 1, 0, 40).fraction(4, 5, "mix", 7, 1, 0, 40);
    }

    @Sentence("(or they are one)")
    static void indexTheyAreOne(Run x) {
        for (int material = 0; material < 8; material++) {
            x.does("element", material, 2, 50 + material);
            x.refuses(Run.INDEX, "mix", material, material, 2, 50 + material, 0);
            x.refuses(Run.INDEX, "mix", material, material, 1, 0, 1);
        }
    }

    @Sentence("Index: no such materials (or they are one), element or part")
    static void indexNoSuchElement(Run x) {
        x.does("element", 0, 0, 100).does("element", 0, 3, 50);
        x.refusesOutside(0, 3, Run.INDEX, 2, "mix", 0, 1, 0, 40, 0);
        x.refusesOutside(0, 3, Run.INDEX, 2, "mix", 7, 6, 0, 40, 0);
        x.fraction(2, 5, "mix", 0, 1, 0, 40).fraction(4, 5, "mix", 0, 1, 3, 40);
    }

    @Sentence("Index: no such materials (or they are one), element or part")
    static void indexNoSuchPart(Run x) {
        x.does("element", 0, 0, 100).refusesOutside(0, 1, Run.INDEX, 4, "mix", 0, 1, 0, 40, 0);
        x.fraction(2, 5, "mix", 0, 1, 0, 40);
    }

    @Sentence("range: the aim is not 0 .. 10,000")
    static void rangeTheAim(Run x) {
        x.does("element", 0, 0, 10000).fraction(0, 1, "mix", 0, 1, 0, 0);
        x.fraction(1, 1, "mix", 0, 1, 0, 10000);
        x.refusesOutside(0, 10000, Run.RANGE, 3, "mix", 0, 1, 0, 0, 0);
        x.refusesOutside(0, 10000, Run.RANGE, 3, "mix", 1, 0, 0, 0, 1);
    }

    @Sentence("meaning: it can't be.")
    static void meaningItCantBe(Run x) {
        x.does("element", 0, 0, 600).does("element", 1, 0, 400).does("element", 2, 0, 400);
        x.refuses(Run.MEANING, "mix", 1, 2, 0, 400, 0).refuses(Run.MEANING, "mix", 1, 2, 0, 399, 0);
        x.refuses(Run.MEANING, "mix", 0, 1, 0, 399, 1).refuses(Run.MEANING, "mix", 0, 1, 0, 601, 1);
        x.refuses(Run.MEANING, "mix", 1, 0, 0, 399, 1).refuses(Run.MEANING, "mix", 1, 0, 0, 601, 1);
        x.fraction(0, 1, "mix", 0, 1, 0, 400).fraction(1, 1, "mix", 0, 1, 0, 600);
    }

    @Sentence("Index: no such materials (or they are one), element or part; range: the aim is not"
            + " 0 .. 10,000")
    static void indexBeforeRange(Run x) {
        x.does("element", 0, 0, 100);
        for (int aim : new int[] {-1, 10001}) {
            for (int bad : new int[] {-1, 8}) {
                x.refuses(Run.INDEX, "mix", bad, 1, 0, aim, 0);
                x.refuses(Run.INDEX, "mix", 0, bad, 0, aim, 0);
            }
            x.refuses(Run.INDEX, "mix", 0, 0, 0, aim, 0);
            x.refusesOutside(0, 3, Run.INDEX, 2, "mix", 0, 1, 0, aim, 0);
            x.refusesOutside(0, 1, Run.INDEX, 4, "mix", 0, 1, 0, aim, 0);
        }
    }

    @Sentence("Index: no such materials (or they are one), element or part; range: the aim is not"
            + " 0 .. 10,000; meaning: it can't be.")
    static void indexBeforeMeaning(Run x) {
        x.refuses(Run.INDEX, "mix", 8, 1, 0, 0, 0).refuses(Run.INDEX, "mix", 0, 8, 0, 0, 0);
        x.refuses(Run.INDEX, "mix", 1, 1, 0, 0, 0).refuses(Run.INDEX, "mix", 0, 1, 4, 0, 0);
        x.refuses(Run.INDEX, "mix", 0, 1, 0, 0, 2);
    }

    @Sentence("range: the aim is not 0 .. 10,000; meaning: it can't be.")
    static void rangeBeforeMeaning(Run x) {
        x.refusesOutside(0, 10000, Run.RANGE, 3, "mix", 0, 1, 0, 0, 0);
        x.refuses(Run.MEANING, "mix", 0, 1, 0, 0, 0).refuses(Run.MEANING, "mix", 0, 1, 0, 10000, 0);
    }
}
