/** Terms, third part: piles, layers, slices, their share, basicity and spread. */
@Section("Terms")
public final class TermsPilesTest {
    public static void main(String[] args) {
        Due.sentencesOf(TermsPilesTest.class);
    }

    @Sentence("PILES 0, 1, .. (at most 4)")
    static void pilesAreAtMost4(Run x) {
        for (int number = 0; number < 4; number++) {
            x.refuses(Run.INDEX, "pileAt", number, 0).is(number, "pile", 5 + number);
        }
        x.refuses(Run.TURN, "pile", 1);
        for (int number = 0; number < 4; number++) {
            x.is(5 + number, "pileAt", number, 0);
        }
        x.refuses(Run.INDEX, "pileAt", 4, 0).refuses(Run.INDEX, "pileAt", -1, 0);
    }

    @Sentence("are made with SLICES (1 .. 65,536).")
    static void slicesAre1To65536(Run x) {
        x.is(0, "pile", 1).is(1, "pile", 65536).is(2, "pile", 65535);
        x.refusesOutside(1, 65536, Run.RANGE, 0, "pile", 1);
        x.is(1, "pileAt", 0, 0).is(65536, "pileAt", 1, 0).is(65535, "pileAt", 2, 0);
    }

    @Sentence("As long as no slice was taken")
    static void noLayerAfterTheFirstSlice(Run x) {
        x.smallYard().does("pile", 3).does("pile", 3).does("lay", 0, 0, 1).does("lay", 0, 0, 1);
        x.does("slice", 0).refuses(Run.TURN, "lay", 0, 0, 1).does("slice", 0);
        x.refuses(Run.TURN, "lay", 0, 0, 1).does("slice", 0).refuses(Run.TURN, "lay", 0, 0, 1);
        x.is(2, "pileAt", 0, 2).is(498, "stock", 0).is(1000, "lay", 1, 0, 1);
    }

    @Sentence("As long as no slice was taken")
    static void noLayerAfterAnEmptySlice(Run x) {
        x.smallYard().does("moisture", 0, 900).does("pile", 101).is(100, "lay", 0, 0, 1);
        x.is(0, "slice", 0).refuses(Run.TURN, "lay", 0, 0, 1).is(100, "pileAt", 0, 3);
    }

    @Sentence("As long as no slice was taken")
    static void aRefusedSliceIsNone(Run x) {
        x.smallYard().does("pile", 3).refuses(Run.TURN, "slice", 0).is(1000, "lay", 0, 0, 1);
    }

    @Sentence("LAYERS (at most 20 of a pile) are laid on them")
    static void layersAreAtMost20OfAPile(Run x) {
        x.smallYard().times(4, "pile", 1);
        for (int layer = 1; layer <= 20; layer++) {
            x.is(1000 * layer, "lay", 0, 3, 1).is(2000 * layer, "lay", 3, 3, 2);
        }
        x.refuses(Run.MEANING, "lay", 0, 3, 1).refuses(Run.MEANING, "lay", 3, 3, 2);
        x.refuses(Run.MEANING, "lay", 0, 4, 1).is(20, "pileAt", 0, 2).is(20, "pileAt", 3, 2);
        x.is(0, "pileAt", 1, 2).is(3000, "lay", 1, 3, 3).is(437, "stock", 3);
        x.is(20000, "slice", 0).is(40000, "slice", 3);
    }

    @Sentence("a material and wet kilos (1 .. 1,000)")
    static void kilosOfALayerAre1To1000(Run x) {
        x.times(3, "ship", 0, 0, 1000, 0).does("pile", 1);
        x.is(1000, "lay", 0, 0, 1).is(1001000, "lay", 0, 0, 1000);
        x.refusesOutside(1, 1000, Run.RANGE, 2, "lay", 0, 0, 1);
        x.is(1999, "stock", 0).is(2000000, "lay", 0, 0, 999).is(1000, "stock", 0);
    }

    @Sentence("a layer has its GRAMS of dry ore: the kilos times (1,000 less the moisture)")
    static void gramsAreKilosTimes1000LessMoisture(Run x) {
        x.fullYard().does("pile", 1).does("moisture", 0, 900).does("moisture", 1, 1);
        x.is(100, "lay", 0, 0, 1).is(100100, "lay", 0, 0, 1000);
        x.is(101099, "lay", 0, 1, 1).is(1100099, "lay", 0, 1, 1000);
        x.is(1101099, "lay", 0, 2, 1).is(2101099, "lay", 0, 2, 1000);
    }

    /** The most that can lie on a pile: twenty layers of 1,000 kilos without moisture. */
    @Sentence("a layer has its GRAMS of dry ore: the kilos times (1,000 less the moisture)")
    static void theMostGrams(Run x) {
        x.fullYard().does("pile", 1);
        for (int layer = 0; layer < 20; layer++) {
            x.is(1000000L * (layer + 1), "lay", 0, layer / 5, 1000);
        }
        x.is(20000000, "pileAt", 0, 3).is(20000000, "slice", 0).is(20000000, "pileAt", 0, 4);
    }

    @Sentence("and the shares of its material as they are then.")
    static void sharesOfALayerAsTheyAreThen(Run x) {
        x.does("element", 6, 2, 5).does("ship", 0, 6, 10, 0).does("pile", 2);
        x.does("element", 6, 2, 300).does("lay", 0, 6, 1).does("element", 6, 2, 900);
        x.does("lay", 0, 6, 2).does("element", 6, 2, 7).does("slice", 0);
        x.fraction(700, 1, "share", 0, 2).does("element", 6, 2, 0).does("slice", 0);
        x.fraction(700, 1, "share", 0, 2).fraction(0, 1, "spread", 0, 2);
    }

    @Sentence("SLICE k (0, 1, ..) takes of each layer its grams times (k + 1) over all slices,"
            + " rounded down, less its grams times k over all slices, rounded down.")
    static void oneSliceTakesAll(Run x) {
        x.smallYard().does("pile", 1).does("moisture", 1, 333);
        x.does("lay", 0, 0, 1).does("lay", 0, 1, 1).is(1667, "slice", 0);
        x.refuses(Run.TURN, "slice", 0);
    }

    @Sentence("SLICE k (0, 1, ..) takes of each layer its grams times (k + 1) over all slices,"
            + " rounded down, less its grams times k over all slices, rounded down.")
    static void asManySlicesAsGrams(Run x) {
        x.smallYard().does("pile", 100).does("moisture", 0, 900).does("lay", 0, 0, 1);
        for (int k = 0; k < 100; k++) {
            x.is(1, "slice", 0);
        }
    }

    /** 100 grams over 101 slices: the first has none, each other one has a gram. */
    @Sentence("SLICE k (0, 1, ..) takes of each layer its grams times (k + 1) over all slices,"
            + " rounded down, less its grams times k over all slices, rounded down.")
    static void oneSliceMoreThanGrams(Run x) {
        x.smallYard().does("pile", 101).does("moisture", 0, 900).does("lay", 0, 0, 1);
        x.is(0, "slice", 0);
        for (int k = 1; k < 101; k++) {
            x.is(1, "slice", 0);
        }
    }

    /** 100 grams over 99 slices: the last has two, each other one has a gram. */
    @Sentence("SLICE k (0, 1, ..) takes of each layer its grams times (k + 1) over all slices,"
            + " rounded down, less its grams times k over all slices, rounded down.")
    static void oneSliceLessThanGrams(Run x) {
        x.smallYard().does("pile", 99).does("moisture", 0, 900).does("lay", 0, 0, 1);
        for (int k = 0; k < 98; k++) {
            x.is(1, "slice", 0);
        }
        x.is(2, "slice", 0);
    }

    /** Two layers of 1,000 grams over 3: 333, 333, 334 of each, not 666, 667, 667 of 2,000. */
    @Sentence("takes of each layer its grams times (k + 1) over all slices,"
            + " rounded down, less its grams times k over all slices, rounded down.")
    static void eachLayerIsRoundedByItself(Run x) {
        x.smallYard().does("pile", 3).does("lay", 0, 0, 1).does("lay", 0, 1, 1);
        x.is(666, "slice", 0).is(666, "slice", 0).is(668, "slice", 0);
    }

    /** The most slices that a pile can have, as many of them as the calls allow. */
    @Sentence("SLICE k (0, 1, ..) takes of each layer its grams times (k + 1) over all slices,"
            + " rounded down, less its grams times k over all slices, rounded down.")
    static void greatGramsOverManySlices(Run x) {
        x.fullYard().does("pile", 65536).does("lay", 0, 0, 1000).does("lay", 0, 1, 999);
        for (int k = 0; k < 440; k++) {
            x.is(cut(1000000, k, 65536) + cut(999000, k, 65536), "slice", 0);
        }
    }

    private static long cut(long grams, long k, long slices) {
        return grams * (k + 1) / slices - grams * k / slices;
    }

    /** All calls that an object has: 1,000 kilos in 507 slices sum up to their grams. */
    @Sentence("SLICE k (0, 1, ..) takes of each layer its grams times (k + 1) over all slices,"
            + " rounded down, less its grams times k over all slices, rounded down.")
    static void allSlicesSumToTheGrams(Run x) {
        x.does("ship", 0, 0, 1000, 0).does("pile", 507).does("lay", 0, 0, 1000);
        x.times(507, "slice", 0).is(507, "pileAt", 0, 1).is(1000000, "pileAt", 0, 4);
    }

    @Sentence("THE SHARE of an element in a slice is the sum over layers of grams taken times the"
            + " layer's share, over all grams taken.")
    static void shareOverTheGramsTaken(Run x) {
        x.smallYard().does("pile", 16).does("moisture", 0, 900).does("element", 0, 0, 500);
        x.does("element", 0, 3, 10000).does("element", 1, 0, 800);
        x.does("lay", 0, 0, 1).does("lay", 0, 1, 1);
        // slice 0 takes 6 of 100 and 62 of 1,000 grams, slice 1 takes 6 and 63
        x.is(68, "slice", 0).fraction(13150, 17, "share", 0, 0);
        x.fraction(15000, 17, "share", 0, 3).fraction(0, 1, "share", 0, 2);
        x.is(69, "slice", 0).fraction(17800, 23, "share", 0, 0);
    }

    @Sentence("THE SHARE of an element in a slice is the sum over layers of grams taken times the"
            + " layer's share, over all grams taken.")
    static void shareOfTheGreatestSum(Run x) {
        x.fullYard().does("pile", 1);
        for (int layer = 0; layer < 20; layer++) {
            x.does("element", layer / 5, 0, layer == 19 ? 9999 : 10000);
            x.does("lay", 0, layer / 5, 1000);
        }
        x.does("slice", 0).fraction(199999, 20, "share", 0, 0);
    }

    @Sentence("THE SHARE of an element in a slice is the sum over layers of grams taken times the"
            + " layer's share, over all grams taken.")
    static void noShareOfNoGrams(Run x) {
        x.smallYard().does("pile", 200).does("moisture", 0, 900).does("element", 0, 1, 7);
        x.does("lay", 0, 0, 1).is(0, "slice", 0).refuses(Run.MEANING, "share", 0, 1, 0);
        x.is(1, "slice", 0).fraction(7, 1, "share", 0, 1);
    }

    @Sentence("ITS BASICITY is the sum for element 0 over that for element 1.")
    static void basicityOfASlice(Run x) {
        x.smallYard().does("pile", 2).does("element", 0, 0, 1200).does("element", 1, 0, 300);
        x.does("element", 1, 1, 900).does("element", 1, 2, 7777).does("element", 0, 3, 5555);
        x.does("lay", 0, 0, 2).does("lay", 0, 1, 1).does("slice", 0);
        x.fraction(3, 1, "basicity", 0);
    }

    @Sentence("ITS BASICITY is the sum for element 0 over that for element 1.")
    static void basicityOfTheGreatestSums(Run x) {
        x.fullYard().does("pile", 1);
        for (int material = 0; material < 4; material++) {
            x.does("element", material, 0, 9999).does("element", material, 1, 10000);
            x.times(5, "lay", 0, material, 1000);
        }
        x.does("slice", 0).fraction(9999, 10000, "basicity", 0);
    }

    @Sentence("THE SPREAD of an element over the slices taken so far that had some grams:"
            + " the greatest share less the least one.")
    static void spreadOverTheSlicesSoFar(Run x) {
        x.smallYard().does("pile", 7).does("moisture", 0, 900).does("moisture", 1, 900);
        x.does("element", 0, 1, 100).does("lay", 0, 0, 1).does("lay", 0, 1, 3);
        x.is(56, "slice", 0).fraction(0, 1, "spread", 0, 1);
        x.is(57, "slice", 0).fraction(25, 57, "spread", 0, 1);
        x.is(57, "slice", 0).fraction(25, 57, "spread", 0, 1);
        x.is(58, "slice", 0).fraction(2150, 1653, "spread", 0, 1);
        x.is(57, "slice", 0).fraction(2150, 1653, "spread", 0, 1);
        x.is(57, "slice", 0).fraction(2150, 1653, "spread", 0, 1);
        x.is(58, "slice", 0).fraction(2150, 1653, "spread", 0, 1);
    }

    @Sentence("that had some grams")
    static void spreadSkipsEmptySlices(Run x) {
        x.smallYard().does("pile", 150).does("moisture", 0, 900).does("element", 0, 1, 77);
        x.does("lay", 0, 0, 1).is(0, "slice", 0).refuses(Run.TURN, "spread", 0, 1, 0);
        x.is(1, "slice", 0).fraction(0, 1, "spread", 0, 1);
        x.is(1, "slice", 0).is(0, "slice", 0).fraction(0, 1, "spread", 0, 1);
    }

    /** 100 g and 200 g in 150 slices: 0 and 1, 1 and 1, 1 and 2 grams. */
    @Sentence("the greatest share less the least one.")
    static void spreadOfSlicesOfFewGrams(Run x) {
        x.smallYard().does("pile", 150).does("moisture", 0, 900).does("element", 0, 1, 1);
        x.does("lay", 0, 0, 1).does("element", 0, 1, 0).does("element", 0, 2, 1);
        x.does("lay", 0, 0, 2).is(1, "slice", 0).is(2, "slice", 0);
        x.fraction(1, 2, "spread", 0, 1).fraction(1, 2, "spread", 0, 2);
        x.is(3, "slice", 0).fraction(1, 2, "spread", 0, 1).fraction(1, 2, "spread", 0, 2);
    }

    /** 300 g and 101 g in 401 slices: slice 1 has a gram of the one, slice 3 of the other. */
    @Sentence("the greatest share less the least one.")
    static void theGreatestSpread(Run x) {
        x.smallYard().does("pile", 401).does("moisture", 0, 900).does("moisture", 1, 899);
        x.does("element", 0, 3, 10000).does("lay", 0, 0, 3).does("lay", 0, 1, 1);
        x.is(0, "slice", 0).is(1, "slice", 0).fraction(0, 1, "spread", 0, 3);
        x.is(1, "slice", 0).fraction(0, 1, "spread", 0, 3);
        x.is(1, "slice", 0).fraction(10000, 1, "spread", 0, 3).fraction(0, 1, "share", 0, 3);
    }

    /** The greatest sums and grams: their products come near the end of a long. */
    @Sentence("the greatest share less the least one.")
    static void spreadOfGreatSlices(Run x) {
        x.fullYard().does("pile", 2).does("moisture", 4, 1).does("element", 4, 0, 10000);
        x.times(5, "lay", 0, 4, 999);
        for (int material = 5; material < 8; material++) {
            x.times(5, "lay", 0, material, 1000);
        }
        // layers 0 .. 4 have 998,001 g each, cut in 499,000 and 499,001 g
        x.is(9995000, "slice", 0).is(9995005, "slice", 0);
        x.fraction(15000000, 3996002999L, "spread", 0, 0);
    }
}
