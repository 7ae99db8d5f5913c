/** Terms, second part: days, materials, ships, stock. */
@Section("Terms")
public final class TermsYardTest {
    public static void main(String[] args) {
        Due.sentencesOf(TermsYardTest.class);
    }

    @Sentence("DAYS are 0 .. 9,999")
    static void daysAre0To9999OfShips(Run x) {
        x.is(0, "ship", 0, 0, 5, 0).is(1, "ship", 9999, 0, 6, 0);
        x.refusesOutside(0, 9999, Run.RANGE, 0, "ship", 0, 0, 7, 0);
        x.is(5, "stock", 0).times(9, "tick", 1000).is(9998, "tick", 998).is(5, "stock", 0);
        x.is(9999, "tick", 1).is(11, "stock", 0);
    }

    @Sentence("DAYS are 0 .. 9,999")
    static void daysAre0To9999OfToday(Run x) {
        x.times(9, "tick", 1000).refuses(Run.RANGE, "tick", 1000).is(9999, "tick", 999);
        x.refuses(Run.RANGE, "tick", 1).refuses(Run.RANGE, "tick", Integer.MAX_VALUE);
        x.refuses(Run.RANGE, "ship", 9998, 0, 1, 0).refuses(Run.RANGE, "ship", 10000, 0, 1, 0);
        x.is(0, "ship", 9999, 0, 1, 0).is(1, "stock", 0);
    }

    @Sentence("TODAY is 0 at first")
    static void todayIs0AtFirst(Run x) {
        x.is(0, "ship", 0, 0, 5, 0).is(5, "stock", 0).is(1, "ship", 1, 0, 6, 0).is(5, "stock", 0);
        x.refuses(Run.RANGE, "ship", -1, 0, 7, 0).is(1, "tick", 1).is(11, "stock", 0);
    }

    @Sentence("and goes on by tick().")
    static void todayGoesOnByTickAlone(Run x) {
        x.does("ship", 50, 0, 5, 0).does("ship", 0, 1, 5, 0).does("moisture", 0, 9);
        x.does("element", 0, 0, 9).does("pile", 3).does("lay", 0, 1, 5).does("slice", 0);
        x.does("point", 9, 9).does("stock", 0).does("pileAt", 0, 0);
        x.is(1, "tick", 1).is(3, "tick", 2).does("slice", 0).is(1003, "tick", 1000);
    }

    @Sentence("MATERIALS 0 .. 7")
    static void materialsAre0To7(Run x) {
        x.does("pile", 1);
        for (int material : new int[] {0, 7}) {
            x.does("moisture", material, 500).does("element", material, 1, 40 + material);
            x.does("ship", 0, material, 9, 0).is(9, "stock", material);
            x.does("lay", 0, material, 2).is(7, "stock", material);
        }
        x.fraction(3, 7, "mix", 7, 0, 1, 43).fraction(4, 7, "mix", 0, 7, 1, 43);
        x.refusesOutside(0, 7, Run.INDEX, 0, "moisture", 0, 5);
        x.refusesOutside(0, 7, Run.INDEX, 0, "element", 0, 1, 5);
        x.refusesOutside(0, 7, Run.INDEX, 1, "ship", 0, 0, 5, 0);
        x.refusesOutside(0, 7, Run.INDEX, 0, "stock", 0);
        x.refusesOutside(0, 7, Run.INDEX, 1, "lay", 0, 0, 1);
        x.refusesOutside(0, 7, Run.INDEX, 0, "mix", 0, 7, 1, 43, 0);
        x.refusesOutside(0, 7, Run.INDEX, 1, "mix", 7, 0, 1, 43, 0);
    }

    @Sentence("have a MOISTURE (0 .. 900 thousandths)")
    static void moistureIs0To900(Run x) {
        x.smallYard().does("pile", 1);
        x.does("moisture", 5, 900).is(100, "lay", 0, 5, 1);
        x.does("moisture", 5, 0).is(1100, "lay", 0, 5, 1);
        x.does("moisture", 5, 899).is(1201, "lay", 0, 5, 1);
        x.refusesOutside(0, 900, Run.RANGE, 1, "moisture", 5, 0).is(1302, "lay", 0, 5, 1);
    }

    @Sentence("and shares of ELEMENTS 0 .. 3 in the dry ore")
    static void elementsAre0To3(Run x) {
        x.smallYard().does("element", 4, 0, 30).does("element", 4, 3, 60).does("pile", 1);
        x.does("lay", 0, 4, 1).does("slice", 0);
        x.fraction(30, 1, "share", 0, 0).fraction(60, 1, "share", 0, 3);
        x.fraction(0, 1, "spread", 0, 0).fraction(0, 1, "spread", 0, 3);
        x.fraction(1, 10, "mix", 4, 1, 0, 3).fraction(1, 20, "mix", 4, 1, 3, 3);
        x.refusesOutside(0, 3, Run.INDEX, 1, "element", 4, 0, 5);
        x.refusesOutside(0, 3, Run.INDEX, 1, "share", 0, 0, 0);
        x.refusesOutside(0, 3, Run.INDEX, 1, "spread", 0, 0, 0);
        x.refusesOutside(0, 3, Run.INDEX, 2, "mix", 4, 1, 0, 3, 0);
    }

    /** Half of the wet kilos is water, which has no share in the elements. */
    @Sentence("and shares of ELEMENTS 0 .. 3 in the dry ore")
    static void sharesAreOfTheDryOre(Run x) {
        x.smallYard().does("moisture", 0, 500).does("element", 0, 2, 60).does("pile", 1);
        x.does("lay", 0, 0, 2).does("lay", 0, 1, 1).is(2000, "slice", 0);
        x.fraction(30, 1, "share", 0, 2);
    }

    @Sentence("(0 .. 10,000 each")
    static void sharesAre0To10000(Run x) {
        x.smallYard().does("pile", 1).does("element", 1, 2, 10000).does("lay", 0, 1, 1);
        x.does("element", 1, 2, 9999).refusesOutside(0, 10000, Run.RANGE, 2, "element", 1, 2, 0);
        x.does("lay", 0, 1, 1).does("element", 1, 2, 0).does("lay", 0, 1, 1).does("slice", 0);
        x.fraction(19999, 3, "share", 0, 2);
    }

    @Sentence("(0 .. 10,000 each")
    static void eachOfTheSharesMayBe10000(Run x) {
        x.smallYard().does("pile", 1);
        for (int element = 0; element < 4; element++) {
            x.does("element", 6, element, 10000);
        }
        x.does("lay", 0, 6, 1).does("slice", 0);
        for (int element = 0; element < 4; element++) {
            x.fraction(10000, 1, "share", 0, element);
        }
        x.fraction(1, 1, "basicity", 0);
    }

    @Sentence("all 0 at first).")
    static void sharesAreAll0AtFirst(Run x) {
        x.smallYard().times(4, "pile", 1);
        for (int pile = 0; pile < 4; pile++) {
            x.is(1000, "lay", pile, 2 * pile, 1).is(2000, "lay", pile, 2 * pile + 1, 1);
            x.does("slice", pile);
            for (int element = 0; element < 4; element++) {
                x.fraction(0, 1, "share", pile, element);
            }
        }
        for (int element = 0; element < 4; element++) {
            x.refuses(Run.MEANING, "mix", 3, 4, element, 0, 0);
        }
    }

    @Sentence("SHIPS 0, 1, .. (at most 40)")
    static void shipsAreAtMost40(Run x) {
        for (int number = 0; number < 40; number++) {
            x.is(number, "ship", number % 3, number % 8, 10, 0);
        }
        x.refuses(Run.TURN, "ship", 0, 0, 10, 0).refuses(Run.TURN, "ship", 9999, 7, 1000, 999);
        x.is(20, "stock", 0).is(2, "tick", 2).is(50, "stock", 0).is(50, "stock", 7);
    }

    @Sentence("come on a day, with a material, kilos (1 .. 1,000)")
    static void kilosOfAShipAre1To1000(Run x) {
        x.is(0, "ship", 0, 2, 1, 0).is(1, "stock", 2).is(1, "ship", 0, 2, 1000, 0);
        x.refusesOutside(1, 1000, Run.RANGE, 2, "ship", 0, 2, 1, 0);
        x.is(1001, "stock", 2).is(2, "ship", 0, 2, 999, 0).is(2000, "stock", 2);
    }

    @Sentence("and a loss (0 .. 999 thousandths)")
    static void lossIs0To999(Run x) {
        x.is(0, "ship", 0, 2, 1000, 0).is(1000, "stock", 2);
        x.is(1, "ship", 0, 3, 1000, 999).is(1, "stock", 3);
        x.refusesOutside(0, 999, Run.RANGE, 3, "ship", 0, 3, 1000, 0);
        x.is(1, "stock", 3).is(2, "ship", 0, 3, 1000, 998).is(3, "stock", 3);
    }

    @Sentence("the kilos times it over 1,000, rounded up, are lost.")
    static void whatIsLostIsRoundedUp(Run x) {
        int[][] kilosLossLeft = {{1, 0, 1}, {1, 1, 0}, {1, 999, 0}, {2, 500, 1}, {2, 501, 0},
            {2, 499, 1}, {1000, 1, 999}, {999, 1, 998}, {500, 2, 499}, {501, 2, 499},
            {499, 2, 498}, {1000, 999, 1}, {999, 999, 0}};
        int stock = 0;
        for (int[] ship : kilosLossLeft) {
            stock += ship[2];
            x.does("ship", 0, 1, ship[0], ship[1]).is(stock, "stock", 1);
        }
    }

    @Sentence("THE STOCK of a material is what came of it up to today")
    static void stockIsWhatCameUpToToday(Run x) {
        x.is(0, "stock", 6).does("ship", 0, 6, 1, 0).does("ship", 4, 6, 20, 0);
        x.does("ship", 5, 6, 300, 0).does("ship", 6, 6, 500, 0).does("ship", 5, 5, 7, 0);
        x.is(1, "stock", 6).does("tick", 3).is(1, "stock", 6).does("tick", 1).is(21, "stock", 6);
        x.does("tick", 1).is(321, "stock", 6).is(7, "stock", 5).does("ship", 5, 6, 100, 0);
        x.is(421, "stock", 6).does("tick", 1).is(921, "stock", 6).does("tick", 1000);
        x.is(921, "stock", 6).is(7, "stock", 5).is(0, "stock", 7);
    }

    @Sentence("less losses")
    static void stockIsLessLosses(Run x) {
        x.does("ship", 0, 6, 100, 15).is(98, "stock", 6).does("ship", 1, 6, 100, 20);
        x.is(98, "stock", 6).does("tick", 1).is(196, "stock", 6);
    }

    @Sentence("less what was laid.")
    static void stockIsLessWhatWasLaid(Run x) {
        x.does("ship", 0, 6, 10, 0).does("ship", 1, 6, 5, 0).does("pile", 2).does("pile", 2);
        x.does("moisture", 6, 900).does("lay", 0, 6, 4).is(6, "stock", 6).does("lay", 1, 6, 6);
        x.is(0, "stock", 6).refuses(Run.MEANING, "lay", 0, 6, 1).is(0, "stock", 6);
        x.does("tick", 1).is(5, "stock", 6).does("slice", 0).is(5, "stock", 6);
    }

    @Sentence("(Moisture of a material as it is when it is laid.)")
    static void moistureAsItIsWhenLaid(Run x) {
        x.does("moisture", 6, 100).does("ship", 0, 6, 10, 0).does("moisture", 6, 300);
        x.does("pile", 2).is(700, "lay", 0, 6, 1).does("moisture", 6, 800);
        x.is(700, "pileAt", 0, 3).is(900, "lay", 0, 6, 1).does("moisture", 6, 0);
        x.is(900, "pileAt", 0, 3).is(450, "slice", 0).is(8, "stock", 6);
    }
}
