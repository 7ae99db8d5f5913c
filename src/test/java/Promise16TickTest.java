/** Promise 16: tick. */
@Section("Promise 16: tick")
public final class Promise16TickTest {
    public static void main(String[] args) {
        Due.sentencesOf(Promise16TickTest.class);
    }

    @Sentence("Time goes on (1 .. 1,000 days): today.")
    static void timeGoesOn(Run x) {
        x.is(1, "tick", 1).is(1001, "tick", 1000).is(1003, "tick", 2).is(2002, "tick", 999);
    }

    @Sentence("Time goes on (1 .. 1,000 days): today.")
    static void shipsComeAsTimeGoesOn(Run x) {
        x.does("ship", 1000, 0, 5, 0).does("ship", 1001, 0, 7, 0).is(999, "tick", 999);
        x.is(0, "stock", 0).is(1000, "tick", 1).is(5, "stock", 0).is(2000, "tick", 1000);
        x.is(12, "stock", 0).refuses(Run.RANGE, "ship", 1999, 0, 1, 0);
        x.does("ship", 2000, 0, 1, 0);
    }

    @Sentence("Range: the days")
    static void rangeTheDays(Run x) {
        x.refusesOutside(1, 1000, Run.RANGE, 0, "tick", 1).does("ship", 0, 0, 1, 0);
        x.is(1, "tick", 1).refusesOutside(1, 1000, Run.RANGE, 0, "tick", 1).is(1001, "tick", 1000);
    }

    /** Today and the greatest int together are below 0: that is no day either. */
    @Sentence("Range: the days")
    static void rangeTheDaysNeverWrapAround(Run x) {
        x.does("tick", 1000).refuses(Run.RANGE, "tick", Integer.MAX_VALUE);
        x.refuses(Run.RANGE, "tick", Integer.MAX_VALUE - 999);
        x.refuses(Run.RANGE, "tick", Integer.MIN_VALUE).refuses(Run.RANGE, "tick", -1000);
        x.is(1001, "tick", 1);
    }

    @Sentence("or beyond 9,999.")
    static void rangeBeyond9999(Run x) {
        x.does("tick", 1).times(9, "tick", 1000).refuses(Run.RANGE, "tick", 999);
        x.refuses(Run.RANGE, "tick", 1000).does("ship", 9001, 0, 1, 0).is(9999, "tick", 998);
        x.refuses(Run.RANGE, "tick", 1).refuses(Run.RANGE, "tick", 1000);
        x.refuses(Run.RANGE, "ship", 9998, 0, 1, 0).does("ship", 9999, 0, 3, 0).is(4, "stock", 0);
    }
}
