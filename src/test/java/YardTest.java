/** Promises 1 to 5 and 16: a new object, materials, ships, stock, days. */
public final class YardTest {
    public static void main(String[] args) {
        newObject();
        moisture();
        element();
        shipAnswers();
        shipRefuses();
        fortyShips();
        stock();
        tick();
        Due.end();
    }

    private static void newObject() {
        BlendRows x = new BlendRows();
        for (int material = 0; material < 8; material++) {
            int m = material;
            Due.is("1: new stock(" + m + ")", 0, () -> x.stock(m));
        }
        Due.refuses("1: new pileAt(0, 0)", Due.INDEX, () -> x.pileAt(0, 0));
        Due.refuses("1: new fit(0, 0)", Due.MEANING, () -> x.fit(0, 0));
        Due.is("1: first ship, on day 0", 0, () -> x.ship(0, 0, 10, 0));
        Due.is("1: first pile", 0, () -> x.pile(1));
        Due.is("1: first point", 1, () -> x.point(0, 0));
        Due.is("1: moisture is 0 at first", 10000, () -> x.lay(0, 0, 10));
        x.slice(0);
        for (int element = 0; element < 4; element++) {
            int e = element;
            Due.fraction("1: shares are 0 at first, element " + e, 0, 1,
                    () -> x.share(0, e, 0), () -> x.share(0, e, 1));
        }
        BlendRows y = new BlendRows();
        Due.is("1: another object has a stock of its own", 0, () -> y.stock(0));
        Due.refuses("1: another object has piles of its own", Due.INDEX, () -> y.slice(0));
    }

    private static void moisture() {
        BlendRows x = new BlendRows();
        for (int material : new int[] {-1, 8, Integer.MIN_VALUE, Integer.MAX_VALUE}) {
            Due.refuses("2: moisture of material " + material, Due.INDEX,
                    () -> x.moisture(material, 0));
            Due.refuses("2: index before range, material " + material, Due.INDEX,
                    () -> x.moisture(material, 901));
        }
        for (int bad : new int[] {-1, 901, Integer.MIN_VALUE, Integer.MAX_VALUE}) {
            Due.refuses("2: moisture of " + bad, Due.RANGE, () -> x.moisture(7, bad));
        }
        x.ship(0, 7, 100, 0);
        x.ship(0, 6, 100, 0);
        x.pile(1);
        Due.is("2: refused moistures change nothing", 1000, () -> x.lay(0, 7, 1));
        x.moisture(7, 900);
        x.moisture(6, 1);
        Due.refuses("2: moisture(7, 901)", Due.RANGE, () -> x.moisture(7, 901));
        Due.is("2: moisture 900", 1100, () -> x.lay(0, 7, 1));
        Due.is("2: moisture 1 of another material", 2099, () -> x.lay(0, 6, 1));
        x.moisture(7, 0);
        Due.is("2: moisture set back to 0", 3099, () -> x.lay(0, 7, 1));
    }

    private static void element() {
        BlendRows x = new BlendRows();
        for (int bad : new int[] {-1, Integer.MIN_VALUE, Integer.MAX_VALUE}) {
            Due.refuses("3: material " + bad, Due.INDEX, () -> x.element(bad, 0, 0));
            Due.refuses("3: element " + bad, Due.INDEX, () -> x.element(0, bad, 0));
            Due.refuses("3: share " + bad, Due.RANGE, () -> x.element(0, 0, bad));
        }
        Due.refuses("3: material 8", Due.INDEX, () -> x.element(8, 0, 0));
        Due.refuses("3: element 4", Due.INDEX, () -> x.element(0, 4, 0));
        Due.refuses("3: share 10001", Due.RANGE, () -> x.element(0, 0, 10001));
        Due.refuses("3: index before range, material", Due.INDEX, () -> x.element(8, 0, -1));
        Due.refuses("3: index before range, element", Due.INDEX, () -> x.element(0, 4, -1));
        x.element(7, 3, 10000);
        x.element(0, 0, 1);
        x.element(0, 3, 2);
        Due.refuses("3: a refused share", Due.RANGE, () -> x.element(7, 3, 10001));
        Due.fraction("3: a share of 10000 and one of 2, aim 2501", 2499, 9998,
                () -> x.mix(7, 0, 3, 2501, 0), () -> x.mix(7, 0, 3, 2501, 1));
        Due.is("3: element 0 of material 0", 1, () -> x.mix(0, 1, 0, 1, 0));
        Due.refuses("3: element 1 of material 0 is 0", Due.MEANING, () -> x.mix(0, 1, 1, 0, 0));
        x.element(7, 3, 2);
        Due.refuses("3: a share set anew", Due.MEANING, () -> x.mix(7, 0, 3, 2, 0));
    }

    private static void shipAnswers() {
        BlendRows x = new BlendRows();
        Due.is("4: a ship today", 0, () -> x.ship(0, 0, 1000, 999));
        Due.is("4: a ship tomorrow", 1, () -> x.ship(1, 0, 500, 0));
        Due.is("4: a ship on the last day", 2, () -> x.ship(9999, 7, 1, 0));
        Due.is("4: a loss below a kilo", 3, () -> x.ship(0, 1, 1, 1));
        Due.is("4: a loss of a kilo and a bit", 4, () -> x.ship(0, 2, 1000, 1));
        Due.is("4: a loss just above a kilo", 5, () -> x.ship(0, 3, 501, 2));
        Due.is("5: 1000 less 999", 1, () -> x.stock(0));
        Due.is("5: a loss below a kilo takes a whole one", 0, () -> x.stock(1));
        Due.is("5: an even loss is not rounded", 999, () -> x.stock(2));
        Due.is("5: a loss is rounded up", 499, () -> x.stock(3));
        Due.is("5: the last day has not come", 0, () -> x.stock(7));
    }

    private static void shipRefuses() {
        BlendRows x = new BlendRows();
        x.tick(10);
        for (int bad : new int[] {Integer.MIN_VALUE, -1, 8, Integer.MAX_VALUE}) {
            Due.refuses("4: material " + bad, Due.INDEX, () -> x.ship(10, bad, 1, 0));
            Due.refuses("4: index before range, material " + bad, Due.INDEX,
                    () -> x.ship(9, bad, 0, 1000));
        }
        for (int bad : new int[] {Integer.MIN_VALUE, -1, 0, 9, 10000, Integer.MAX_VALUE}) {
            Due.refuses("4: day " + bad, Due.RANGE, () -> x.ship(bad, 0, 1, 0));
        }
        for (int bad : new int[] {Integer.MIN_VALUE, -1, 0, 1001, Integer.MAX_VALUE}) {
            Due.refuses("4: kilos " + bad, Due.RANGE, () -> x.ship(10, 0, bad, 0));
        }
        for (int bad : new int[] {Integer.MIN_VALUE, -1, 1000, Integer.MAX_VALUE}) {
            Due.refuses("4: loss " + bad, Due.RANGE, () -> x.ship(10, 0, 1, bad));
        }
        Due.is("4: refused ships bring nothing", 0, () -> x.stock(0));
        Due.is("4: refused ships have no number", 0, () -> x.ship(10, 0, 1000, 0));
    }

    private static void fortyShips() {
        BlendRows x = new BlendRows();
        for (int i = 0; i < 40; i++) {
            int want = i;
            Due.is("4: ship " + i, want, () -> x.ship(0, 5, 1000, 0));
        }
        Due.refuses("4: ship 40", Due.TURN, () -> x.ship(0, 5, 1000, 0));
        Due.refuses("4: turn before range", Due.TURN, () -> x.ship(-1, 5, 0, 1000));
        Due.refuses("4: index before turn", Due.INDEX, () -> x.ship(0, 8, 1, 0));
        Due.is("5: the stock of forty ships", 40000, () -> x.stock(5));
    }

    private static void stock() {
        BlendRows x = new BlendRows();
        for (int bad : new int[] {Integer.MIN_VALUE, -1, 8, Integer.MAX_VALUE}) {
            Due.refuses("5: stock(" + bad + ")", Due.INDEX, () -> x.stock(bad));
        }
        x.ship(0, 0, 100, 0);
        x.ship(2, 0, 50, 100);
        x.ship(3, 0, 7, 0);
        x.ship(2, 1, 9, 0);
        Due.is("5: stock on day 0", 100, () -> x.stock(0));
        x.tick(1);
        Due.is("5: stock on day 1", 100, () -> x.stock(0));
        x.pile(2);
        x.moisture(0, 500);
        x.lay(0, 0, 60);
        Due.is("5: wet kilos leave the stock", 40, () -> x.stock(0));
        x.tick(1);
        Due.is("5: a ship comes on its day", 85, () -> x.stock(0));
        Due.is("5: another material's stock", 9, () -> x.stock(1));
        x.tick(1);
        Due.is("5: and the next one", 92, () -> x.stock(0));
        x.slice(0);
        Due.is("5: slices leave the stock alone", 92, () -> x.stock(0));
    }

    private static void tick() {
        BlendRows x = new BlendRows();
        for (int bad : new int[] {Integer.MIN_VALUE, -1, 0, 1001, Integer.MAX_VALUE}) {
            Due.refuses("16: tick(" + bad + ")", Due.RANGE, () -> x.tick(bad));
        }
        Due.is("16: tick(1)", 1, () -> x.tick(1));
        for (int i = 1; i <= 9; i++) {
            int want = 1 + 1000 * i;
            Due.is("16: tick(1000)", want, () -> x.tick(1000));
        }
        Due.refuses("16: beyond 9999", Due.RANGE, () -> x.tick(999));
        Due.is("16: to the last day", 9999, () -> x.tick(998));
        Due.refuses("16: behind the last day", Due.RANGE, () -> x.tick(1));
        Due.refuses("16: the day before today", Due.RANGE, () -> x.ship(9998, 0, 1, 0));
        Due.is("16: a ship on the last day", 0, () -> x.ship(9999, 0, 3, 0));
        Due.is("16: it is here", 3, () -> x.stock(0));
    }
}
