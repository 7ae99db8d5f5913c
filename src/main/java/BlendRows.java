/**
 * Blends of ores and coals: ships with losses, stocks by days, piles laid in layers and reclaimed
 * in slices, shares and basicity of slices as exact fractions, mixes to an aim, a straight fit.
 *
 * <p>Every method makes its checks in the document's order (index, turn, range, meaning) before it
 * changes anything, so that what is refused changes nothing.
 */
public final class BlendRows {
    private static final int MATERIALS = 8;
    private static final int ELEMENTS = 4;
    private static final int SHIPS = 40;
    private static final int PILES = 4;
    private static final int LAYERS = 20;
    private static final int POINTS = 20;

    private static final int LAST_DAY = 9999;
    private static final int MOST_TICK = 1000;
    private static final int MOST_MOISTURE = 900;
    private static final int MOST_SHARE = 10000;
    private static final int MOST_KILOS = 1000;
    private static final int MOST_LOSS = 999;
    private static final int MOST_SLICES = 65536;
    private static final int MOST_COORDINATE = 10000;
    private static final int THOUSAND = 1000;

    /** Euclid's steps on two longs are fewer than 100, whatever the numbers are. */
    private static final int EUCLID_STEPS = 100;

    private final int[] moistures = new int[MATERIALS];
    private final int[] shares = new int[MATERIALS * ELEMENTS];
    private final int[] laidKilos = new int[MATERIALS];

    private final int[] shipDays = new int[SHIPS];
    private final int[] shipMaterials = new int[SHIPS];
    private final int[] shipKilos = new int[SHIPS];
    private int shipCount;

    private final Pile[] piles = new Pile[PILES];
    private int pileCount;

    private final Line line = new Line();
    private int today;

    /**
     * No ships, no piles, no points; today is 0. The rows of all piles are made here, for no memory
     * is made later on: pile() only takes the next ones into use.
     */
    public BlendRows() {
        for (int number = 0; number < PILES; number++) {
            piles[number] = new Pile();
        }
    }

    /** Sets a material's moisture, in thousandths. */
    public void moisture(int material, int thousandths)
            throws IndexOutOfBoundsException, IllegalArgumentException {
        needMaterial(material);
        needRange(thousandths, 0, MOST_MOISTURE);
        moistures[material] = thousandths;
    }

    /** Sets a material's share of an element in the dry ore. */
    public void element(int material, int element, int share)
            throws IndexOutOfBoundsException, IllegalArgumentException {
        needMaterial(material);
        needElement(element);
        needRange(share, 0, MOST_SHARE);
        shares[material * ELEMENTS + element] = share;
    }

    /** Books a ship that comes on a day: answers its number. */
    public int ship(int day, int material, int kilos, int loss)
            throws IndexOutOfBoundsException, IllegalStateException, IllegalArgumentException {
        needMaterial(material);
        if (shipCount >= SHIPS) {
            throw new IllegalStateException("no more ships");
        }
        needRange(day, today, LAST_DAY);
        needRange(kilos, 1, MOST_KILOS);
        needRange(loss, 0, MOST_LOSS);
        int number = shipCount;
        shipDays[number] = day;
        shipMaterials[number] = material;
        shipKilos[number] = kilos - lostKilos(kilos, loss);
        shipCount = number + 1;
        return number;
    }

    /** Answers a material's stock today, in kilos. */
    public int stock(int material) throws IndexOutOfBoundsException {
        needMaterial(material);
        return stockOf(material);
    }

    /** Makes one more pile: answers its number. */
    public int pile(int slices) throws IllegalStateException, IllegalArgumentException {
        int number = pileCount;
        Pile next = number < PILES ? piles[number] : null;
        if (next == null) {
            throw new IllegalStateException("no more piles");
        }
        needRange(slices, 1, MOST_SLICES);
        next.slices = slices;
        pileCount = number + 1;
        return number;
    }

    /** Lays a layer of wet kilos on a pile: answers the pile's grams of dry ore. */
    public int lay(int pile, int material, int kilos)
            throws IndexOutOfBoundsException, IllegalStateException, IllegalArgumentException,
            UnsupportedOperationException {
        Pile at = needPile(pile);
        needMaterial(material);
        if (at.taken > 0) {
            throw new IllegalStateException("a slice was taken");
        }
        needRange(kilos, 1, MOST_KILOS);
        if (at.layers >= LAYERS) {
            throw new UnsupportedOperationException("no more layers");
        }
        if (stockOf(material) < kilos) {
            throw new UnsupportedOperationException("the stock is less");
        }
        at.addLayer(kilos * (THOUSAND - moistures[material]), shares, material);
        laidKilos[material] += kilos;
        return at.grams;
    }

    /** Takes the next slice of a pile: answers its grams. */
    public int slice(int pile) throws IndexOutOfBoundsException, IllegalStateException {
        Pile at = needPile(pile);
        if (at.layers == 0) {
            throw new IllegalStateException("no layers");
        }
        if (at.taken >= at.slices) {
            throw new IllegalStateException("all slices were taken");
        }
        at.takeNext();
        return at.latestGrams;
    }

    /** Answers the share of an element in the latest slice. */
    public long share(int pile, int element, int part)
            throws IndexOutOfBoundsException, IllegalStateException,
            UnsupportedOperationException {
        Pile at = needPile(pile);
        needElement(element);
        needPart(part);
        needTaken(at);
        if (at.latestGrams == 0) {
            throw new UnsupportedOperationException("the slice had no grams");
        }
        return lowestTerms(at.latestSums[element], at.latestGrams, part);
    }

    /** Answers the basicity of the latest slice. */
    public long basicity(int pile, int part)
            throws IndexOutOfBoundsException, IllegalStateException,
            UnsupportedOperationException {
        Pile at = needPile(pile);
        needPart(part);
        needTaken(at);
        if (at.latestSums[1] == 0) {
            throw new UnsupportedOperationException("nothing of element 1");
        }
        return lowestTerms(at.latestSums[0], at.latestSums[1], part);
    }

    /** Answers the greatest share of an element less the least one, over the slices with grams. */
    public long spread(int pile, int element, int part)
            throws IndexOutOfBoundsException, IllegalStateException {
        Pile at = needPile(pile);
        needElement(element);
        needPart(part);
        if (at.gramsTaken == 0) {
            throw new IllegalStateException("no slice with grams was taken");
        }
        return lowestTerms(at.spreadUpper(element), at.spreadLower(element), part);
    }

    /** Answers of a pile: 0 its slices, 1 slices taken, 2 layers, 3 grams in all, 4 grams taken. */
    public int pileAt(int pile, int what) throws IndexOutOfBoundsException {
        Pile at = needPile(pile);
        switch (what) {
            case 0:
                return at.slices;
            case 1:
                return at.taken;
            case 2:
                return at.layers;
            case 3:
                return at.grams;
            case 4:
                return at.gramsTaken;
            default:
                throw new IndexOutOfBoundsException("no such what");
        }
    }

    /** Answers the part of the first material with which two together have the aim's share. */
    public long mix(int first, int second, int element, int aim, int part)
            throws IndexOutOfBoundsException, IllegalArgumentException,
            UnsupportedOperationException {
        needMaterial(first);
        needMaterial(second);
        if (first == second) {
            throw new IndexOutOfBoundsException("the materials are one");
        }
        needElement(element);
        needPart(part);
        needRange(aim, 0, MOST_SHARE);
        int a = shares[first * ELEMENTS + element];
        int b = shares[second * ELEMENTS + element];
        if (a == b || aim < Math.min(a, b) || aim > Math.max(a, b)) {
            throw new UnsupportedOperationException("no such mix");
        }
        return lowestTerms(aim - b, a - b, part);
    }

    /** Adds a point: answers how many there are. */
    public int point(int x, int y) throws IllegalStateException, IllegalArgumentException {
        if (line.count >= POINTS) {
            throw new IllegalStateException("no more points");
        }
        needRange(x, 0, MOST_COORDINATE);
        needRange(y, 0, MOST_COORDINATE);
        line.addPoint(x, y);
        return line.count;
    }

    /** Answers of the line of least squares: 0 its slope, 1 its height. */
    public long fit(int what, int part)
            throws IndexOutOfBoundsException, UnsupportedOperationException {
        if (what < 0 || what > 1) {
            throw new IndexOutOfBoundsException("no such what");
        }
        needPart(part);
        long lower = line.lower();
        if (lower == 0) {
            throw new UnsupportedOperationException("no such line");
        }
        return lowestTerms(what == 0 ? line.slopeUpper() : line.heightUpper(), lower, part);
    }

    /** Lets time go on: answers today. */
    public int tick(int days) throws IllegalArgumentException {
        needRange(days, 1, MOST_TICK);
        needRange(today + days, 0, LAST_DAY);
        today += days;
        return today;
    }

    private static void needMaterial(int material) {
        if (material < 0 || material >= MATERIALS) {
            throw new IndexOutOfBoundsException("no such material");
        }
    }

    private static void needElement(int element) {
        if (element < 0 || element >= ELEMENTS) {
            throw new IndexOutOfBoundsException("no such element");
        }
    }

    private static void needPart(int part) {
        if (part < 0 || part > 1) {
            throw new IndexOutOfBoundsException("no such part");
        }
    }

    private static void needRange(int value, int least, int most) {
        if (value < least || value > most) {
            throw new IllegalArgumentException("out of range");
        }
    }

    private static void needTaken(Pile at) {
        if (at.taken == 0) {
            throw new IllegalStateException("no slice was taken");
        }
    }

    private Pile needPile(int pile) {
        Pile at = pile >= 0 && pile < PILES && pile < pileCount ? piles[pile] : null;
        if (at == null) {
            throw new IndexOutOfBoundsException("no such pile");
        }
        return at;
    }

    private static int lostKilos(int kilos, int loss) {
        return (kilos * loss + THOUSAND - 1) / THOUSAND;
    }

    private int stockOf(int material) {
        int kilos = -laidKilos[material];
        for (int ship = 0; ship < SHIPS && ship < shipCount; ship++) {
            if (shipMaterials[ship] == material && shipDays[ship] <= today) {
                kilos += shipKilos[ship];
            }
        }
        return kilos;
    }

    /** One number of a fraction in lowest terms, the lower number above 0. */
    private static long lowestTerms(long upper, long lower, int part) {
        long divisor = commonDivisor(upper, lower);
        if (divisor == 0) {
            return 0;
        }
        long told = (part == 0 ? upper : lower) / divisor;
        return lower < 0 ? -told : told;
    }

    private static long commonDivisor(long first, long second) {
        long divisor = Math.abs(first);
        long rest = Math.abs(second);
        for (int step = 0; step < EUCLID_STEPS && rest != 0; step++) {
            long next = divisor % rest;
            divisor = rest;
            rest = next;
        }
        return divisor;
    }

    /**
     * A pile with its layers, its latest slice, and of each element the greatest and the least
     * share so far. A share is kept as its sum and its grams; a product of a sum (at most 2e11)
     * and grams (at most 2e7) stays within a long, so shares are compared exactly.
     */
    private static final class Pile {
        private int slices;
        private final int[] layerGrams = new int[LAYERS];
        private final int[] layerShares = new int[LAYERS * ELEMENTS];
        private int layers;
        private int grams;
        private int taken;
        private int gramsTaken;

        private int latestGrams;
        private final long[] latestSums = new long[ELEMENTS];
        private final long[] greatestSums = new long[ELEMENTS];
        private final int[] greatestGrams = new int[ELEMENTS];
        private final long[] leastSums = new long[ELEMENTS];
        private final int[] leastGrams = new int[ELEMENTS];

        /** Copies the shares, for a material's shares may be set anew after it was laid. */
        void addLayer(int dryGrams, int[] shares, int material) {
            layerGrams[layers] = dryGrams;
            for (int element = 0; element < ELEMENTS; element++) {
                layerShares[layers * ELEMENTS + element] = shares[material * ELEMENTS + element];
            }
            grams += dryGrams;
            layers++;
        }

        void takeNext() {
            clearLatest();
            for (int layer = 0; layer < LAYERS && layer < layers; layer++) {
                takeOfLayer(layer);
            }
            taken++;
            gramsTaken += latestGrams;
            if (latestGrams > 0) {
                for (int element = 0; element < ELEMENTS; element++) {
                    noteGreatest(element);
                    noteLeast(element);
                }
            }
        }

        private void clearLatest() {
            latestGrams = 0;
            for (int element = 0; element < ELEMENTS; element++) {
                latestSums[element] = 0;
            }
        }

        private void takeOfLayer(int layer) {
            int part = gramsBefore(layer, taken + 1) - gramsBefore(layer, taken);
            latestGrams += part;
            for (int element = 0; element < ELEMENTS; element++) {
                latestSums[element] += (long) part * layerShares[layer * ELEMENTS + element];
            }
        }

        /** What all slices before this one take of a layer. */
        private int gramsBefore(int layer, int number) {
            return slices < 1 ? 0 : (int) ((long) layerGrams[layer] * number / slices);
        }

        /** Grams of 0 tell that no share was kept yet: only slices with grams come here. */
        private void noteGreatest(int element) {
            if (greatestGrams[element] == 0
                    || latestSums[element] * greatestGrams[element]
                            > greatestSums[element] * latestGrams) {
                greatestSums[element] = latestSums[element];
                greatestGrams[element] = latestGrams;
            }
        }

        private void noteLeast(int element) {
            if (leastGrams[element] == 0
                    || latestSums[element] * leastGrams[element]
                            < leastSums[element] * latestGrams) {
                leastSums[element] = latestSums[element];
                leastGrams[element] = latestGrams;
            }
        }

        long spreadUpper(int element) {
            return greatestSums[element] * leastGrams[element]
                    - leastSums[element] * greatestGrams[element];
        }

        long spreadLower(int element) {
            return (long) greatestGrams[element] * leastGrams[element];
        }
    }

    /** The points by their sums alone: the fit needs nothing else of them. */
    private static final class Line {
        private int count;
        private long sumX;
        private long sumY;
        private long sumXX;
        private long sumXY;

        void addPoint(int x, int y) {
            count++;
            sumX += x;
            sumY += y;
            sumXX += (long) x * x;
            sumXY += (long) x * y;
        }

        long slopeUpper() {
            return count * sumXY - sumX * sumY;
        }

        long heightUpper() {
            return sumY * sumXX - sumX * sumXY;
        }

        long lower() {
            return count * sumXX - sumX * sumX;
        }
    }
}
