/** Terms, fourth part: mixes of two, points and the straight line. */
@Section("Terms")
public final class TermsMixAndFitTest {
    public static void main(String[] args) {
        Due.sentencesOf(TermsMixAndFitTest.class);
    }

    @Sentence("A MIX of two materials to an aim of an element: the part of the first one's dry ore"
            + " in theirs together with which its share is the aim")
    static void mixIsThePartOfTheFirst(Run x) {
        x.does("element", 0, 1, 1200).does("element", 7, 1, 300);
        x.fraction(2, 9, "mix", 0, 7, 1, 500).fraction(7, 9, "mix", 7, 0, 1, 500);
        x.fraction(1, 900, "mix", 0, 7, 1, 301).fraction(899, 900, "mix", 7, 0, 1, 301);
        x.fraction(1, 2, "mix", 0, 7, 1, 750).fraction(1, 2, "mix", 7, 0, 1, 750);
    }

    @Sentence("the part of the first one's dry ore in theirs together")
    static void moistureHasNoPartInAMix(Run x) {
        x.does("element", 0, 1, 1200).does("moisture", 0, 900).does("moisture", 1, 400);
        x.fraction(1, 4, "mix", 0, 1, 1, 300);
    }

    @Sentence("by their shares a, b as they are: (aim less b) over (a less b)")
    static void mixBySharesAsTheyAre(Run x) {
        x.does("element", 0, 1, 1200).does("element", 7, 1, 300);
        x.fraction(2, 9, "mix", 0, 7, 1, 500).does("element", 7, 1, 200);
        x.fraction(3, 10, "mix", 0, 7, 1, 500).does("element", 0, 1, 700);
        x.fraction(3, 5, "mix", 0, 7, 1, 500);
    }

    @Sentence("it can't be when a is b")
    static void noMixWhenAIsB(Run x) {
        x.does("element", 2, 1, 4000).does("element", 3, 1, 4000).does("element", 4, 1, 4001);
        x.refuses(Run.MEANING, "mix", 2, 3, 1, 4000, 0).refuses(Run.MEANING, "mix", 2, 3, 1, 0, 1);
        x.refuses(Run.MEANING, "mix", 2, 3, 1, 10000, 0).refuses(Run.MEANING, "mix", 0, 1, 1, 0, 0);
        x.fraction(0, 1, "mix", 4, 3, 1, 4000).fraction(1, 1, "mix", 4, 3, 1, 4001);
    }

    @Sentence("or the part would be below 0")
    static void noMixBelow0(Run x) {
        x.does("element", 0, 1, 5000).does("element", 1, 1, 4000);
        x.fraction(0, 1, "mix", 0, 1, 1, 4000).refuses(Run.MEANING, "mix", 0, 1, 1, 3999, 0);
        x.refuses(Run.MEANING, "mix", 0, 1, 1, 0, 0);
        x.fraction(0, 1, "mix", 1, 0, 1, 5000).refuses(Run.MEANING, "mix", 1, 0, 1, 5001, 0);
        x.refuses(Run.MEANING, "mix", 1, 0, 1, 10000, 1);
    }

    @Sentence("or above 1.")
    static void noMixAbove1(Run x) {
        x.does("element", 0, 1, 5000).does("element", 1, 1, 4000);
        x.fraction(1, 1, "mix", 0, 1, 1, 5000).refuses(Run.MEANING, "mix", 0, 1, 1, 5001, 0);
        x.refuses(Run.MEANING, "mix", 0, 1, 1, 10000, 0);
        x.fraction(1, 1, "mix", 1, 0, 1, 4000).refuses(Run.MEANING, "mix", 1, 0, 1, 3999, 0);
        x.refuses(Run.MEANING, "mix", 1, 0, 1, 0, 1);
    }

    @Sentence("POINTS (at most 20)")
    static void pointsAreAtMost20(Run x) {
        for (int count = 1; count <= 20; count++) {
            x.is(count, "point", count, 2 * count);
        }
        x.refuses(Run.TURN, "point", 5, 5).refuses(Run.TURN, "point", 0, 10000);
        x.fraction(2, 1, "fit", 0).fraction(0, 1, "fit", 1);
    }

    @Sentence("have x and y (0 .. 10,000 each).")
    static void xAndYAre0To10000(Run x) {
        x.is(1, "point", 0, 10000).is(2, "point", 10000, 0);
        x.refusesOutside(0, 10000, Run.RANGE, 0, "point", 0, 5);
        x.refusesOutside(0, 10000, Run.RANGE, 1, "point", 5, 0);
        x.fraction(-1, 1, "fit", 0).fraction(10000, 1, "fit", 1).is(3, "point", 0, 0);
    }

    @Sentence("THE FIT is the straight line of least squares: its slope n times the sum of x y less"
            + " the sum of x times the sum of y, over n times the sum of x x less the square of the"
            + " sum of x")
    static void slope(Run x) {
        x.does("point", 1, 3).does("point", 1, 5).does("point", 4, 2).fraction(-2, 3, "fit", 0);
        x.does("point", 4, 6).fraction(0, 1, "fit", 0);
        // n 5, sums x 20, y 25, xx 134, xy 130: 150 over 270
        x.does("point", 10, 9).fraction(5, 9, "fit", 0);
    }

    @Sentence("its height the sum of y times the sum of x x less the sum of x times the sum of x y,"
            + " over the same")
    static void height(Run x) {
        x.does("point", 1, 3).does("point", 1, 5).does("point", 4, 2).fraction(14, 3, "fit", 1);
        x.does("point", 4, 6).fraction(4, 1, "fit", 1);
        // n 5, sums x 20, y 25, xx 134, xy 130: 750 over 270
        x.does("point", 10, 9).fraction(25, 9, "fit", 1);
    }

    /** Twenty points at the far end: products of the sums are beyond an int. */
    @Sentence("THE FIT is the straight line of least squares")
    static void fitOfGreatNumbers(Run x) {
        for (int i = 0; i < 20; i++) {
            x.does("point", 10000 - i % 2, 10000 - i / 10);
        }
        x.fraction(0, 1, "fit", 0).fraction(19999, 2, "fit", 1);
    }

    @Sentence("THE FIT is the straight line of least squares")
    static void theSteepestFit(Run x) {
        x.does("point", 9999, 0).does("point", 10000, 10000);
        x.fraction(10000, 1, "fit", 0).fraction(-99990000, 1, "fit", 1);
    }

    @Sentence("it can't be when that is 0.")
    static void noFitOfNoPointsOrOne(Run x) {
        x.refuses(Run.MEANING, "fit", 0, 0).refuses(Run.MEANING, "fit", 1, 1);
        x.does("point", 10000, 3).refuses(Run.MEANING, "fit", 0, 1);
        x.refuses(Run.MEANING, "fit", 1, 0).does("point", 9999, 3).fraction(0, 1, "fit", 0);
    }

    @Sentence("it can't be when that is 0.")
    static void noFitOfPointsWithOneX(Run x) {
        for (int y = 0; y < 19; y++) {
            x.does("point", 10000, 500 * y).refuses(Run.MEANING, "fit", y % 2, 0);
        }
        x.does("point", 0, 4500).fraction(0, 1, "fit", 0).fraction(4500, 1, "fit", 1);
    }
}
