import java.math.BigInteger;
import java.util.ArrayList;
import java.util.List;

/**
 * The document once more, as slow and plain as it reads: everything is kept, and every answer is
 * worked out anew from it with numbers that have no end. ModelTest holds BlendRows against it.
 */
final class PlainModel {
    private record Ship(int day, int material, int kilos, int loss) {
    }

    private record Layer(int material, int kilos, long grams, int[] shares) {
    }

    private record Point(int x, int y) {
    }

    private record Fraction(BigInteger upper, BigInteger lower) {
        Fraction less(Fraction other) {
            return new Fraction(
                    upper.multiply(other.lower).subtract(other.upper.multiply(lower)),
                    lower.multiply(other.lower));
        }

        boolean below(Fraction other) {
            return upper.multiply(other.lower).compareTo(other.upper.multiply(lower)) < 0;
        }

        long part(int part) {
            BigInteger divisor = upper.gcd(lower);
            if (lower.signum() < 0) {
                divisor = divisor.negate();
            }
            return (part == 0 ? upper : lower).divide(divisor).longValueExact();
        }
    }

    private static final class Pile {
        private int slices;
        private int taken;
        private final List<Layer> layers = new ArrayList<>();
    }

    private final int[] moistures = new int[8];
    private final int[][] shares = new int[8][4];
    private final List<Ship> ships = new ArrayList<>();
    private final List<Pile> piles = new ArrayList<>();
    private final List<Point> points = new ArrayList<>();
    private int today;

    void moisture(int material, int thousandths) {
        index(in(material, 0, 7));
        range(in(thousandths, 0, 900));
        moistures[material] = thousandths;
    }

    void element(int material, int element, int share) {
        index(in(material, 0, 7) && in(element, 0, 3));
        range(in(share, 0, 10000));
        shares[material][element] = share;
    }

    int ship(int day, int material, int kilos, int loss) {
        index(in(material, 0, 7));
        turn(ships.size() < 40);
        range(in(day, 0, 9999) && day >= today && in(kilos, 1, 1000) && in(loss, 0, 999));
        ships.add(new Ship(day, material, kilos, loss));
        return ships.size() - 1;
    }

    int stock(int material) {
        index(in(material, 0, 7));
        int stock = 0;
        for (Ship ship : ships) {
            if (ship.material == material && ship.day <= today) {
                int lost = 0;
                while (lost * 1000 < ship.kilos * ship.loss) {
                    lost++;
                }
                stock += ship.kilos - lost;
            }
        }
        for (Pile pile : piles) {
            for (Layer layer : pile.layers) {
                stock -= layer.material == material ? layer.kilos : 0;
            }
        }
        return stock;
    }

    int pile(int slices) {
        turn(piles.size() < 4);
        range(in(slices, 1, 65536));
        Pile pile = new Pile();
        pile.slices = slices;
        piles.add(pile);
        return piles.size() - 1;
    }

    int lay(int pile, int material, int kilos) {
        index(in(pile, 0, piles.size() - 1) && in(material, 0, 7));
        Pile at = piles.get(pile);
        turn(at.taken == 0);
        range(in(kilos, 1, 1000));
        meaning(at.layers.size() < 20 && stock(material) >= kilos);
        at.layers.add(new Layer(material, kilos, kilos * (1000L - moistures[material]),
                shares[material].clone()));
        return pileAt(pile, 3);
    }

    int slice(int pile) {
        index(in(pile, 0, piles.size() - 1));
        Pile at = piles.get(pile);
        turn(!at.layers.isEmpty() && at.taken < at.slices);
        at.taken++;
        return (int) gramsOf(at, at.taken - 1);
    }

    long share(int pile, int element, int part) {
        index(in(pile, 0, piles.size() - 1) && in(element, 0, 3) && in(part, 0, 1));
        Pile at = piles.get(pile);
        turn(at.taken > 0);
        meaning(gramsOf(at, at.taken - 1) > 0);
        return shareOf(at, at.taken - 1, element).part(part);
    }

    long basicity(int pile, int part) {
        index(in(pile, 0, piles.size() - 1) && in(part, 0, 1));
        Pile at = piles.get(pile);
        turn(at.taken > 0);
        BigInteger lower = sumOf(at, at.taken - 1, 1);
        meaning(lower.signum() > 0);
        return new Fraction(sumOf(at, at.taken - 1, 0), lower).part(part);
    }

    long spread(int pile, int element, int part) {
        index(in(pile, 0, piles.size() - 1) && in(element, 0, 3) && in(part, 0, 1));
        Pile at = piles.get(pile);
        Fraction least = null;
        Fraction greatest = null;
        for (int k = 0; k < at.taken; k++) {
            if (gramsOf(at, k) > 0) {
                Fraction share = shareOf(at, k, element);
                least = least == null || share.below(least) ? share : least;
                greatest = greatest == null || greatest.below(share) ? share : greatest;
            }
        }
        turn(least != null);
        return greatest.less(least).part(part);
    }

    int pileAt(int pile, int what) {
        index(in(pile, 0, piles.size() - 1) && in(what, 0, 4));
        Pile at = piles.get(pile);
        long grams = 0;
        for (Layer layer : at.layers) {
            grams += layer.grams;
        }
        long gramsTaken = 0;
        for (int k = 0; k < at.taken; k++) {
            gramsTaken += gramsOf(at, k);
        }
        long[] all = {at.slices, at.taken, at.layers.size(), grams, gramsTaken};
        return (int) all[what];
    }

    long mix(int first, int second, int element, int aim, int part) {
        index(in(first, 0, 7) && in(second, 0, 7) && first != second && in(element, 0, 3)
                && in(part, 0, 1));
        range(in(aim, 0, 10000));
        int a = shares[first][element];
        int b = shares[second][element];
        meaning(a != b);
        Fraction mixed = new Fraction(BigInteger.valueOf(aim - b), BigInteger.valueOf(a - b));
        meaning(in(mixed.part(0), 0, mixed.part(1)));
        return mixed.part(part);
    }

    int point(int x, int y) {
        turn(points.size() < 20);
        range(in(x, 0, 10000) && in(y, 0, 10000));
        points.add(new Point(x, y));
        return points.size();
    }

    long fit(int what, int part) {
        index(in(what, 0, 1) && in(part, 0, 1));
        BigInteger n = BigInteger.valueOf(points.size());
        BigInteger x = BigInteger.ZERO;
        BigInteger y = BigInteger.ZERO;
        BigInteger xx = BigInteger.ZERO;
        BigInteger xy = BigInteger.ZERO;
        for (Point point : points) {
            x = x.add(BigInteger.valueOf(point.x));
            y = y.add(BigInteger.valueOf(point.y));
            xx = xx.add(BigInteger.valueOf(point.x).pow(2));
            xy = xy.add(BigInteger.valueOf(point.x).multiply(BigInteger.valueOf(point.y)));
        }
        BigInteger lower = n.multiply(xx).subtract(x.pow(2));
        meaning(lower.signum() != 0);
        BigInteger slope = n.multiply(xy).subtract(x.multiply(y));
        BigInteger height = y.multiply(xx).subtract(x.multiply(xy));
        return new Fraction(what == 0 ? slope : height, lower).part(part);
    }

    int tick(int days) {
        range(in(days, 1, 1000) && today + days <= 9999);
        today += days;
        return today;
    }

    private static long gramsOf(Pile pile, int k) {
        long grams = 0;
        for (Layer layer : pile.layers) {
            grams += gramsOf(layer, pile.slices, k);
        }
        return grams;
    }

    private static long gramsOf(Layer layer, long slices, long k) {
        return layer.grams * (k + 1) / slices - layer.grams * k / slices;
    }

    private static BigInteger sumOf(Pile pile, int k, int element) {
        BigInteger sum = BigInteger.ZERO;
        for (Layer layer : pile.layers) {
            sum = sum.add(BigInteger.valueOf(gramsOf(layer, pile.slices, k))
                    .multiply(BigInteger.valueOf(layer.shares[element])));
        }
        return sum;
    }

    private static Fraction shareOf(Pile pile, int k, int element) {
        return new Fraction(sumOf(pile, k, element), BigInteger.valueOf(gramsOf(pile, k)));
    }

    private static boolean in(long value, long least, long most) {
        return least <= value && value <= most;
    }

    private static void index(boolean good) {
        if (!good) {
            throw new IndexOutOfBoundsException();
        }
    }

    private static void turn(boolean good) {
        if (!good) {
            throw new IllegalStateException();
        }
    }

    private static void range(boolean good) {
        if (!good) {
            throw new IllegalArgumentException();
        }
    }

    private static void meaning(boolean good) {
        if (!good) {
            throw new UnsupportedOperationException();
        }
    }
}
