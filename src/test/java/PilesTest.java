/** Promises 6 to 12: piles, layers, slices and what is told of them. */
public final class PilesTest {
    private static final int[] NO_PILE = {Integer.MIN_VALUE, -1, 1, 4, Integer.MAX_VALUE};
    private static final int[] NO_ELEMENT = {Integer.MIN_VALUE, -1, 4, Integer.MAX_VALUE};
    private static final int[] NO_PART = {Integer.MIN_VALUE, -1, 2, Integer.MAX_VALUE};

    public static void main(String[] args) {
        pile();
        lay();
        layRefuses();
        twentyLayers();
        layersKeepTheirShares();
        slice();
        sliceSumsExactly();
        share();
        basicity();
        spread();
        spreadSkipsEmptySlices();
        spreadOfFewGrams();
        greatNumbers();
        pileAt();
        indexBeforeTurn();
        Due.end();
    }

    /** Materials 0 .. 7, each with 5 ships of 1000 kilos. */
    private static BlendRows full() {
        BlendRows x = new BlendRows();
        for (int ship = 0; ship < 40; ship++) {
            x.ship(0, ship % 8, 1000, 0);
        }
        return x;
    }

    private static void pile() {
        BlendRows x = new BlendRows();
        for (int bad : new int[] {Integer.MIN_VALUE, -1, 0, 65537, Integer.MAX_VALUE}) {
            Due.refuses("6: pile(" + bad + ")", Due.RANGE, () -> x.pile(bad));
        }
        Due.is("6: pile(1)", 0, () -> x.pile(1));
        Due.is("6: pile(65536)", 1, () -> x.pile(65536));
        Due.is("6: pile(2)", 2, () -> x.pile(2));
        Due.refuses("6: pile(0) is still refused", Due.RANGE, () -> x.pile(0));
        Due.is("6: pile(3)", 3, () -> x.pile(3));
        Due.refuses("6: a fifth pile", Due.TURN, () -> x.pile(1));
        Due.refuses("6: turn before range", Due.TURN, () -> x.pile(0));
        Due.is("6: the slices of pile 1", 65536, () -> x.pileAt(1, 0));
        Due.is("6: the slices of pile 3", 3, () -> x.pileAt(3, 0));
    }

    private static void lay() {
        BlendRows x = full();
        x.pile(3);
        x.pile(3);
        x.moisture(0, 80);
        Due.is("7: lay(0, 0, 100)", 92000, () -> x.lay(0, 0, 100));
        Due.is("7: lay(0, 1, 1)", 93000, () -> x.lay(0, 1, 1));
        Due.is("7: lay(0, 1, 999)", 1092000, () -> x.lay(0, 1, 999));
        Due.is("7: the other pile's grams", 1000000, () -> x.lay(1, 2, 1000));
        Due.is("7: stock of 0", 4900, () -> x.stock(0));
        Due.is("7: stock of 1", 4000, () -> x.stock(1));
        Due.is("7: stock of 2", 4000, () -> x.stock(2));
        x.slice(0);
        Due.refuses("7: a slice was taken", Due.TURN, () -> x.lay(0, 0, 1));
        Due.is("7: but not of the other pile", 1001000, () -> x.lay(1, 1, 1));
    }

    private static void layRefuses() {
        BlendRows x = new BlendRows();
        x.ship(0, 0, 10, 0);
        x.ship(1, 0, 10, 0);
        x.pile(1);
        for (int bad : NO_PILE) {
            Due.refuses("7: pile " + bad, Due.INDEX, () -> x.lay(bad, 0, 1));
        }
        for (int bad : new int[] {Integer.MIN_VALUE, -1, 8, Integer.MAX_VALUE}) {
            Due.refuses("7: material " + bad, Due.INDEX, () -> x.lay(0, bad, 1));
            Due.refuses("7: index before range " + bad, Due.INDEX, () -> x.lay(0, bad, 0));
        }
        for (int bad : new int[] {Integer.MIN_VALUE, -1, 0, 1001, Integer.MAX_VALUE}) {
            Due.refuses("7: kilos " + bad, Due.RANGE, () -> x.lay(0, 0, bad));
        }
        Due.refuses("7: the stock is less", Due.MEANING, () -> x.lay(0, 0, 11));
        Due.refuses("7: range before meaning", Due.RANGE, () -> x.lay(0, 1, 1001));
        Due.is("7: refused layers change no stock", 10, () -> x.stock(0));
        Due.is("7: refused layers are none", 0, () -> x.pileAt(0, 2));
        Due.is("7: the whole stock", 10000, () -> x.lay(0, 0, 10));
        Due.refuses("7: nothing is left", Due.MEANING, () -> x.lay(0, 0, 1));
        x.tick(1);
        Due.is("7: the next ship is here", 20000, () -> x.lay(0, 0, 10));
        x.slice(0);
        Due.refuses("7: index before turn, pile", Due.INDEX, () -> x.lay(1, 0, 1));
        Due.refuses("7: index before turn, material", Due.INDEX, () -> x.lay(0, 8, 1));
        Due.refuses("7: turn before range", Due.TURN, () -> x.lay(0, 0, 0));
        Due.refuses("7: turn before meaning", Due.TURN, () -> x.lay(0, 0, 1000));
    }

    private static void twentyLayers() {
        BlendRows x = full();
        x.pile(1);
        x.pile(1);
        for (int layer = 1; layer <= 20; layer++) {
            int want = 7000 * layer;
            Due.is("7: layer " + layer, want, () -> x.lay(0, 3, 7));
        }
        Due.refuses("7: layer 21", Due.MEANING, () -> x.lay(0, 3, 1));
        Due.refuses("7: range before a full pile", Due.RANGE, () -> x.lay(0, 3, 0));
        Due.is("7: a full pile takes no stock", 4860, () -> x.stock(3));
        Due.is("7: a full pile keeps its layers", 20, () -> x.pileAt(0, 2));
        Due.is("7: the other pile has room", 1000, () -> x.lay(1, 3, 1));
        Due.is("8: all of twenty layers", 140000, () -> x.slice(0));
    }

    private static void layersKeepTheirShares() {
        BlendRows x = full();
        x.pile(1);
        x.moisture(0, 100);
        x.element(0, 2, 300);
        x.lay(0, 0, 1);
        x.moisture(0, 800);
        x.element(0, 2, 900);
        Due.is("7: grams as moisture was then", 900, () -> x.pileAt(0, 3));
        x.lay(0, 0, 1);
        x.element(0, 2, 0);
        Due.is("8: grams of both", 1100, () -> x.slice(0));
        Due.fraction("9: shares as they were then", 4500, 11,
                () -> x.share(0, 2, 0), () -> x.share(0, 2, 1));
    }

    private static void slice() {
        BlendRows x = full();
        x.pile(3);
        for (int bad : NO_PILE) {
            Due.refuses("8: pile " + bad, Due.INDEX, () -> x.slice(bad));
        }
        Due.refuses("8: no layers", Due.TURN, () -> x.slice(0));
        Due.is("8: a refused slice is none", 0, () -> x.pileAt(0, 1));
        x.lay(0, 0, 1);
        x.lay(0, 1, 1);
        Due.is("8: slice 0 takes 333 of each", 666, () -> x.slice(0));
        Due.is("8: slice 1 takes 333 of each", 666, () -> x.slice(0));
        Due.is("8: slice 2 takes 334 of each", 668, () -> x.slice(0));
        Due.refuses("8: all were taken", Due.TURN, () -> x.slice(0));
        Due.is("8: three were taken", 3, () -> x.pileAt(0, 1));
        Due.is("8: all grams were taken", 2000, () -> x.pileAt(0, 4));
    }

    /** Each layer is cut by itself: 100 grams over 65,536 slices come one by one. */
    private static void sliceSumsExactly() {
        BlendRows x = full();
        x.pile(65536);
        x.pile(300);
        x.moisture(0, 900);
        x.lay(0, 0, 1);
        x.lay(0, 1, 1000);
        x.lay(1, 0, 1);
        x.lay(1, 0, 1);
        for (int k = 0; k < 200; k++) {
            long want = cut(100, k, 65536) + cut(1000000, k, 65536);
            Due.is("8: slice " + k + " of 65536", want, () -> x.slice(0));
        }
        for (int k = 0; k < 300; k++) {
            long want = k % 3 == 2 ? 2 : 0;
            Due.is("8: slice " + k + " of 300", want, () -> x.slice(1));
        }
        Due.is("8: the sum of 300 slices", 200, () -> x.pileAt(1, 4));
    }

    private static long cut(long grams, long k, long slices) {
        return grams * (k + 1) / slices - grams * k / slices;
    }

    private static void share() {
        BlendRows x = full();
        x.pile(16);
        x.moisture(0, 900);
        x.element(0, 0, 500);
        x.element(0, 3, 10000);
        x.element(1, 0, 800);
        Due.refuses("9: none was taken", Due.TURN, () -> x.share(0, 0, 0));
        x.lay(0, 0, 1);
        x.lay(0, 1, 1);
        Due.refuses("9: still none was taken", Due.TURN, () -> x.share(0, 0, 0));
        x.slice(0);
        for (int bad : NO_PILE) {
            Due.refuses("9: pile " + bad, Due.INDEX, () -> x.share(bad, 0, 0));
        }
        for (int bad : NO_ELEMENT) {
            Due.refuses("9: element " + bad, Due.INDEX, () -> x.share(0, bad, 0));
        }
        for (int bad : NO_PART) {
            Due.refuses("9: part " + bad, Due.INDEX, () -> x.share(0, 0, bad));
        }
        // slice 0 takes 6 of 100 and 62 of 1000 grams
        Due.fraction("9: element 0 of slice 0", 13150, 17,
                () -> x.share(0, 0, 0), () -> x.share(0, 0, 1));
        Due.fraction("9: element 3 of slice 0", 15000, 17,
                () -> x.share(0, 3, 0), () -> x.share(0, 3, 1));
        Due.fraction("9: nothing of element 2", 0, 1,
                () -> x.share(0, 2, 0), () -> x.share(0, 2, 1));
        x.slice(0);
        // slice 1 takes 6 of 100 and 63 of 1000 grams
        Due.fraction("9: element 0 of slice 1", 17800, 23,
                () -> x.share(0, 0, 0), () -> x.share(0, 0, 1));
        shareOfEmptySlice();
    }

    private static void shareOfEmptySlice() {
        BlendRows x = full();
        x.pile(200);
        x.moisture(0, 900);
        x.element(0, 1, 7);
        x.lay(0, 0, 1);
        Due.is("9: slice 0 is empty", 0, () -> x.slice(0));
        Due.refuses("9: it had no grams", Due.MEANING, () -> x.share(0, 1, 0));
        Due.refuses("9: index before meaning", Due.INDEX, () -> x.share(0, 4, 0));
        Due.is("9: slice 1 has a gram", 1, () -> x.slice(0));
        Due.is("9: its share", 7, () -> x.share(0, 1, 0));
        x.slice(0);
        Due.refuses("9: slice 2 had none", Due.MEANING, () -> x.share(0, 1, 0));
    }

    private static void basicity() {
        BlendRows x = full();
        x.pile(2);
        x.pile(200);
        x.pile(1);
        x.element(0, 0, 1200);
        x.element(1, 0, 300);
        x.element(1, 1, 900);
        Due.refuses("10: none was taken", Due.TURN, () -> x.basicity(0, 0));
        x.lay(0, 0, 2);
        x.lay(0, 1, 1);
        Due.refuses("10: still none was taken", Due.TURN, () -> x.basicity(0, 0));
        x.slice(0);
        Due.fraction("10: 1000 g of 1200 and 500 g of 300 over 900", 3, 1,
                () -> x.basicity(0, 0), () -> x.basicity(0, 1));
        for (int bad : new int[] {Integer.MIN_VALUE, -1, 3, Integer.MAX_VALUE}) {
            Due.refuses("10: pile " + bad, Due.INDEX, () -> x.basicity(bad, 0));
        }
        for (int bad : NO_PART) {
            Due.refuses("10: part " + bad, Due.INDEX, () -> x.basicity(0, bad));
            Due.refuses("10: index before turn, part " + bad, Due.INDEX,
                    () -> x.basicity(2, bad));
        }
        x.moisture(2, 900);
        x.element(2, 1, 4);
        x.lay(1, 2, 1);
        x.slice(1);
        Due.refuses("10: nothing in an empty slice", Due.MEANING, () -> x.basicity(1, 0));
        Due.refuses("10: index before meaning", Due.INDEX, () -> x.basicity(1, 2));
        x.slice(1);
        Due.fraction("10: nothing of element 0", 0, 1,
                () -> x.basicity(1, 0), () -> x.basicity(1, 1));
        x.lay(2, 0, 1);
        x.slice(2);
        Due.refuses("10: nothing of element 1", Due.MEANING, () -> x.basicity(2, 1));
    }

    private static void spread() {
        BlendRows x = full();
        x.pile(3);
        x.moisture(0, 900);
        x.element(0, 0, 500);
        x.element(1, 0, 800);
        x.element(1, 2, 3);
        x.element(0, 2, 3);
        Due.refuses("11: no slice", Due.TURN, () -> x.spread(0, 0, 0));
        x.lay(0, 0, 1);
        x.lay(0, 1, 1);
        x.slice(0);
        for (int bad : NO_PILE) {
            Due.refuses("11: pile " + bad, Due.INDEX, () -> x.spread(bad, 0, 0));
        }
        for (int bad : NO_ELEMENT) {
            Due.refuses("11: element " + bad, Due.INDEX, () -> x.spread(0, bad, 0));
        }
        for (int bad : NO_PART) {
            Due.refuses("11: part " + bad, Due.INDEX, () -> x.spread(0, 0, bad));
        }
        // the slices take 33, 33, 34 of the first and 333, 333, 334 of the second layer
        Due.fraction("11: one slice", 0, 1, () -> x.spread(0, 0, 0), () -> x.spread(0, 0, 1));
        x.slice(0);
        Due.fraction("11: two like slices", 0, 1,
                () -> x.spread(0, 0, 0), () -> x.spread(0, 0, 1));
        x.slice(0);
        // 282900 / 366 less 284200 / 368
        Due.fraction("11: three slices", 1875, 2806,
                () -> x.spread(0, 0, 0), () -> x.spread(0, 0, 1));
        Due.fraction("11: the same share everywhere", 0, 1,
                () -> x.spread(0, 2, 0), () -> x.spread(0, 2, 1));
        spreadGoesOn();
    }

    /** 100 g and 300 g in 7 slices: 14 42, 14 43, 14 43, 15 43, 14 43, 14 43, 15 43. */
    private static void spreadGoesOn() {
        BlendRows x = full();
        x.pile(7);
        x.pile(7);
        x.moisture(0, 900);
        x.moisture(1, 900);
        x.element(0, 1, 100);
        x.lay(0, 0, 1);
        x.lay(0, 1, 3);
        x.lay(1, 0, 1);
        long[][] slices = {{14, 42}, {14, 43}, {14, 43}, {15, 43}, {14, 43}, {14, 43}, {15, 43}};
        long[][] spreads = {{0, 1}, {25, 57}, {25, 57}, {2150, 1653}, {2150, 1653},
            {2150, 1653}, {2150, 1653}};
        for (int k = 0; k < 7; k++) {
            int at = k;
            Due.is("11: slice " + k, slices[k][0] + slices[k][1], () -> x.slice(0));
            Due.fraction("11: spread after slice " + k, spreads[at][0], spreads[at][1],
                    () -> x.spread(0, 1, 0), () -> x.spread(0, 1, 1));
        }
        Due.refuses("11: another pile's slices do not count", Due.TURN,
                () -> x.spread(1, 1, 0));
    }

    private static void spreadSkipsEmptySlices() {
        BlendRows x = full();
        x.pile(150);
        x.moisture(0, 900);
        x.element(0, 1, 77);
        x.lay(0, 0, 1);
        Due.is("11: slice 0 is empty", 0, () -> x.slice(0));
        Due.refuses("11: no slice with grams", Due.TURN, () -> x.spread(0, 1, 0));
        Due.refuses("11: index before turn", Due.INDEX, () -> x.spread(0, 4, 0));
        Due.is("11: slice 1 has a gram", 1, () -> x.slice(0));
        Due.is("11: slice 2 has a gram", 1, () -> x.slice(0));
        Due.is("11: slice 3 is empty", 0, () -> x.slice(0));
        Due.fraction("11: empty slices have no share", 0, 1,
                () -> x.spread(0, 1, 0), () -> x.spread(0, 1, 1));
        Due.refuses("9: the latest one is empty", Due.MEANING, () -> x.share(0, 1, 0));
    }

    /** 100 g and 200 g in 150 slices: 0 1, 1 1, 1 2: shares that are next to one another. */
    private static void spreadOfFewGrams() {
        BlendRows x = full();
        x.pile(150);
        x.moisture(0, 900);
        x.element(0, 1, 1);
        x.lay(0, 0, 1);
        x.element(0, 1, 0);
        x.element(0, 2, 1);
        x.lay(0, 0, 2);
        x.slice(0);
        x.slice(0);
        Due.fraction("11: 1 in 2 less 0 in 1", 1, 2,
                () -> x.spread(0, 1, 0), () -> x.spread(0, 1, 1));
        Due.fraction("11: 1 in 1 less 1 in 2", 1, 2,
                () -> x.spread(0, 2, 0), () -> x.spread(0, 2, 1));
        x.slice(0);
        Due.fraction("11: 1 in 3 lies between", 1, 2,
                () -> x.spread(0, 1, 0), () -> x.spread(0, 1, 1));
    }

    /** The greatest grams and shares that can be: products beyond an int, near a long's end. */
    private static void greatNumbers() {
        BlendRows x = full();
        x.pile(1);
        x.pile(2);
        for (int material = 0; material < 4; material++) {
            x.element(material, 0, 10000);
            x.element(material, 1, 9999);
        }
        for (int layer = 0; layer < 20; layer++) {
            x.lay(0, layer / 5, 1000);
        }
        Due.is("8: twenty tons at once", 20000000, () -> x.slice(0));
        Due.fraction("9: the whole share", 10000, 1,
                () -> x.share(0, 0, 0), () -> x.share(0, 0, 1));
        Due.fraction("10: great sums", 10000, 9999,
                () -> x.basicity(0, 0), () -> x.basicity(0, 1));
        Due.fraction("11: of one great slice", 0, 1,
                () -> x.spread(0, 0, 0), () -> x.spread(0, 0, 1));
        x.moisture(4, 1);
        x.element(4, 0, 10000);
        for (int layer = 0; layer < 15; layer++) {
            x.lay(1, 4 + layer / 5, layer < 5 ? 999 : 1000);
        }
        // layers 0 .. 4 have 998,001 g each, cut in 499,000 and 499,001 g
        Due.is("8: half of fifteen tons", 7495000, () -> x.slice(1));
        Due.is("8: the other half", 7495005, () -> x.slice(1));
        Due.fraction("11: of two great slices", 10000000, 2247002499L,
                () -> x.spread(1, 0, 0), () -> x.spread(1, 0, 1));
    }

    private static void pileAt() {
        BlendRows x = full();
        x.pile(4);
        for (int bad : NO_PILE) {
            Due.refuses("12: pile " + bad, Due.INDEX, () -> x.pileAt(bad, 0));
        }
        for (int bad : new int[] {Integer.MIN_VALUE, -1, 5, Integer.MAX_VALUE}) {
            Due.refuses("12: what " + bad, Due.INDEX, () -> x.pileAt(0, bad));
        }
        told(x, "a new pile", 4, 0, 0, 0, 0);
        x.lay(0, 0, 1);
        x.lay(0, 0, 2);
        told(x, "two layers", 4, 0, 2, 3000, 0);
        x.slice(0);
        x.slice(0);
        x.slice(0);
        told(x, "three slices", 4, 3, 2, 3000, 2250);
        x.slice(0);
        told(x, "all slices", 4, 4, 2, 3000, 3000);
    }

    private static void told(BlendRows x, String when, int... wants) {
        for (int what = 0; what < wants.length; what++) {
            int at = what;
            Due.is("12: " + when + ", what " + what, wants[what], () -> x.pileAt(0, at));
        }
    }

    private static void indexBeforeTurn() {
        BlendRows x = full();
        x.pile(1);
        Due.refuses("9: element before turn", Due.INDEX, () -> x.share(0, 4, 0));
        Due.refuses("9: part before turn", Due.INDEX, () -> x.share(0, 0, 2));
        Due.refuses("10: part before turn", Due.INDEX, () -> x.basicity(0, 2));
        Due.refuses("11: element before turn", Due.INDEX, () -> x.spread(0, -1, 0));
        Due.refuses("11: part before turn", Due.INDEX, () -> x.spread(0, 0, -1));
    }
}
