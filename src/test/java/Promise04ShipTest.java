/** Promise 4: ship. */
@Section("Promise 4: ship")
public final class Promise04ShipTest {
    public static void main(String[] args) {
        Due.sentencesOf(Promise04ShipTest.class);
    }

    @Sentence("A ship: its number.")
    static void numbersAreFrom0(Run x) {
        x.is(0, "ship", 0, 3, 10, 0).is(1, "ship", 9999, 3, 10, 0).is(2, "ship", 0, 0, 1, 999);
        x.does("tick", 5).is(3, "ship", 5, 3, 10, 0).is(20, "stock", 3).is(0, "stock", 0);
    }

    @Sentence("A ship: its number.")
    static void aRefusedShipHasNoNumber(Run x) {
        x.is(0, "ship", 0, 3, 10, 0).refuses(Run.RANGE, "ship", 0, 3, 0, 0);
        x.refuses(Run.INDEX, "ship", 0, 8, 1, 0).is(1, "ship", 0, 3, 5, 0).is(15, "stock", 3);
    }

    @Sentence("Index: no such material")
    static void indexNoSuchMaterial(Run x) {
        x.refusesOutside(0, 7, Run.INDEX, 1, "ship", 0, 0, 10, 0);
        x.is(0, "stock", 0).is(0, "stock", 7);
        x.is(0, "ship", 0, 0, 10, 0).is(1, "ship", 0, 7, 20, 0);
        x.is(10, "stock", 0).is(20, "stock", 7);
    }

    @Sentence("turn: there are 40")
    static void turnThereAre40(Run x) {
        x.times(39, "ship", 0, 5, 1000, 0).is(39, "ship", 1, 5, 1000, 0);
        x.refuses(Run.TURN, "ship", 0, 5, 1, 0).refuses(Run.TURN, "ship", 1, 0, 1, 0);
        x.is(39000, "stock", 5).does("tick", 1).is(40000, "stock", 5).is(0, "stock", 0);
    }

    /** Ships that came and ships of which nothing is left are ships still. */
    @Sentence("turn: there are 40")
    static void turnCountsShipsOfThePast(Run x) {
        x.times(40, "ship", 0, 5, 1, 999).is(0, "stock", 5).does("tick", 1000);
        x.refuses(Run.TURN, "ship", 1000, 5, 1, 0).is(0, "stock", 5);
    }

    @Sentence("range: the day (0 .. 9,999) is before today")
    static void rangeTheDayIsBeforeToday(Run x) {
        x.does("tick", 10).refuses(Run.RANGE, "ship", 9, 0, 1, 0);
        x.refuses(Run.RANGE, "ship", 0, 0, 1, 0).is(0, "stock", 0);
        x.is(0, "ship", 10, 0, 1, 0).is(1, "ship", 11, 0, 2, 0).is(1, "stock", 0);
        x.does("tick", 1).refuses(Run.RANGE, "ship", 10, 0, 1, 0).is(3, "stock", 0);
    }

    @Sentence("range: the day (0 .. 9,999) is before today, or none")
    static void rangeTheDayIsNone(Run x) {
        x.refusesOutside(0, 9999, Run.RANGE, 0, "ship", 0, 0, 1, 0).is(0, "stock", 0);
        x.is(0, "ship", 0, 0, 1, 0).is(1, "ship", 9999, 0, 2, 0).does("tick", 10);
        x.refusesOutside(10, 9999, Run.RANGE, 0, "ship", 0, 0, 1, 0).is(1, "stock", 0);
        x.refuses(Run.RANGE, "ship", -1, 0, 1, 0).is(2, "ship", 9999, 0, 2, 0);
    }

    @Sentence("kilos, the loss.")
    static void rangeKilos(Run x) {
        x.refusesOutside(1, 1000, Run.RANGE, 2, "ship", 0, 0, 1, 0).is(0, "stock", 0);
        x.is(0, "ship", 0, 0, 1, 0).is(1, "ship", 0, 0, 1000, 0).is(1001, "stock", 0);
    }

    @Sentence("kilos, the loss.")
    static void rangeTheLoss(Run x) {
        x.refusesOutside(0, 999, Run.RANGE, 3, "ship", 0, 0, 10, 0).is(0, "stock", 0);
        x.is(0, "ship", 0, 0, 10, 0).is(10, "stock", 0).is(1, "ship", 0, 0, 10, 999);
        x.is(10, "stock", 0).is(2, "ship", 0, 0, 10, 900).is(11, "stock", 0);
    }

    @Sentence("Index: no such material; turn: there are 40; range: the day (0 .. 9,999) is before"
            + " today, or none, kilos, the loss.")
    static void indexBeforeRange(Run x) {
        x.does("tick", 3);
        for (int bad : new int[] {-1, 8}) {
            x.refuses(Run.INDEX, "ship", 2, bad, 1, 0).refuses(Run.INDEX, "ship", 10000, bad, 1, 0);
            x.refuses(Run.INDEX, "ship", 3, bad, 0, 0).refuses(Run.INDEX, "ship", 3, bad, 1001, 0);
            x.refuses(Run.INDEX, "ship", 3, bad, 1, -1).refuses(Run.INDEX, "ship", 3, bad, 1, 1000);
        }
    }

    @Sentence("Index: no such material; turn: there are 40")
    static void indexBeforeTurn(Run x) {
        x.fullYard().refusesOutside(0, 7, Run.INDEX, 1, "ship", 0, 0, 1, 0);
        x.refuses(Run.INDEX, "ship", -1, 8, 0, 1000);
    }

    @Sentence("turn: there are 40; range: the day (0 .. 9,999) is before today, or none, kilos,"
            + " the loss.")
    static void turnBeforeRange(Run x) {
        x.fullYard().does("tick", 3).refuses(Run.TURN, "ship", 2, 0, 1, 0);
        x.refuses(Run.TURN, "ship", 10000, 0, 1, 0).refuses(Run.TURN, "ship", 3, 0, 0, 0);
        x.refuses(Run.TURN, "ship", 3, 0, 1001, 0).refuses(Run.TURN, "ship", 3, 0, 1, -1);
        x.refuses(Run.TURN, "ship", 3, 0, 1, 1000);
    }
}
