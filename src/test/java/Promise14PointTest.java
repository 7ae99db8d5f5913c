/** Promise 14: point. */
@Section("Promise 14: point")
public final class Promise14PointTest {
    public static void main(String[] args) {
        Due.sentencesOf(Promise14PointTest.class);
    }

    @Sentence("One more point: how many.")
    static void howManyPoints(Run x) {
        x.is(1, "point", 0, 0).is(2, "point", 0, 0).refuses(Run.RANGE, "point", 0, -1);
        x.is(3, "point", 10000, 10000).fraction(1, 1, "fit", 0).fraction(0, 1, "fit", 1);
    }

    @Sentence("Turn: there are 20")
    static void turnThereAre20(Run x) {
        x.times(18, "point", 0, 0).is(19, "point", 0, 0).is(20, "point", 10000, 10000);
        x.refuses(Run.TURN, "point", 10000, 0).refuses(Run.TURN, "point", 0, 10000);
        x.fraction(1, 1, "fit", 0).fraction(0, 1, "fit", 1);
    }

    @Sentence("range: x, y.")
    static void rangeX(Run x) {
        x.refusesOutside(0, 10000, Run.RANGE, 0, "point", 0, 5).is(1, "point", 0, 5);
        x.is(2, "point", 10000, 5).refusesOutside(0, 10000, Run.RANGE, 0, "point", 0, 0);
        x.fraction(0, 1, "fit", 0).fraction(5, 1, "fit", 1);
    }

    @Sentence("range: x, y.")
    static void rangeY(Run x) {
        x.refusesOutside(0, 10000, Run.RANGE, 1, "point", 5, 0).is(1, "point", 5, 0);
        x.is(2, "point", 6, 10000).refusesOutside(0, 10000, Run.RANGE, 1, "point", 0, 0);
        x.fraction(10000, 1, "fit", 0).fraction(-50000, 1, "fit", 1);
    }

    @Sentence("Turn: there are 20; range: x, y.")
    static void turnBeforeRange(Run x) {
        x.times(20, "point", 5, 5).refusesOutside(0, 10000, Run.TURN, 0, "point", 0, 5);
        x.refusesOutside(0, 10000, Run.TURN, 1, "point", 5, 0);
    }
}
