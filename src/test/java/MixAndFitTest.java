/** Promises 13 to 15: mixes of two, points and the straight line. */
public final class MixAndFitTest {
    private static final int[] NO_PART = {Integer.MIN_VALUE, -1, 2, Integer.MAX_VALUE};

    public static void main(String[] args) {
        mix();
        mixEdges();
        mixRefuses();
        point();
        fit();
        fitRefuses();
        fitOfGreatNumbers();
        Due.end();
    }

    private static void mixIs(BlendRows x, int first, int second, int aim, long upper,
            long lower) {
        Due.fraction("13: mix(" + first + ", " + second + ", 1, " + aim + ")", upper, lower,
                () -> x.mix(first, second, 1, aim, 0), () -> x.mix(first, second, 1, aim, 1));
    }

    private static void mix() {
        BlendRows x = new BlendRows();
        x.element(0, 1, 1200);
        x.element(7, 1, 300);
        mixIs(x, 0, 7, 500, 2, 9);
        mixIs(x, 7, 0, 500, 7, 9);
        mixIs(x, 0, 7, 750, 1, 2);
        mixIs(x, 7, 0, 750, 1, 2);
        mixIs(x, 0, 7, 301, 1, 900);
        mixIs(x, 7, 0, 301, 899, 900);
        x.element(7, 1, 200);
        mixIs(x, 0, 7, 500, 3, 10);
    }

    private static void mixEdges() {
        BlendRows x = new BlendRows();
        x.element(0, 1, 10000);
        x.element(2, 1, 4000);
        x.element(3, 1, 4000);
        mixIs(x, 0, 1, 0, 0, 1);
        mixIs(x, 0, 1, 10000, 1, 1);
        mixIs(x, 1, 0, 0, 1, 1);
        mixIs(x, 1, 0, 10000, 0, 1);
        mixIs(x, 2, 1, 4000, 1, 1);
        Due.refuses("13: above 1", Due.MEANING, () -> x.mix(2, 1, 1, 4001, 0));
        Due.refuses("13: below 0", Due.MEANING, () -> x.mix(1, 2, 1, 4001, 0));
        Due.refuses("13: below 0, from above", Due.MEANING, () -> x.mix(0, 2, 1, 3999, 0));
        Due.refuses("13: above 1, from above", Due.MEANING, () -> x.mix(2, 0, 1, 3999, 1));
        Due.refuses("13: a is b", Due.MEANING, () -> x.mix(2, 3, 1, 5000, 0));
        Due.refuses("13: a is b is the aim", Due.MEANING, () -> x.mix(2, 3, 1, 4000, 0));
    }

    private static void mixRefuses() {
        BlendRows x = new BlendRows();
        x.element(0, 1, 100);
        for (int bad : new int[] {Integer.MIN_VALUE, -1, 8, Integer.MAX_VALUE}) {
            Due.refuses("13: first " + bad, Due.INDEX, () -> x.mix(bad, 1, 1, 50, 0));
            Due.refuses("13: second " + bad, Due.INDEX, () -> x.mix(0, bad, 1, 50, 0));
            Due.refuses("13: both " + bad, Due.INDEX, () -> x.mix(bad, bad, 1, 50, 0));
        }
        for (int bad : new int[] {Integer.MIN_VALUE, -1, 4, Integer.MAX_VALUE}) {
            Due.refuses("13: element " + bad, Due.INDEX, () -> x.mix(0, 1, bad, 50, 0));
        }
        for (int bad : NO_PART) {
            Due.refuses("13: part " + bad, Due.INDEX, () -> x.mix(0, 1, 1, 50, bad));
        }
        for (int bad : new int[] {Integer.MIN_VALUE, -1, 10001, Integer.MAX_VALUE}) {
            Due.refuses("13: aim " + bad, Due.RANGE, () -> x.mix(0, 1, 1, bad, 0));
            Due.refuses("13: one material, aim " + bad, Due.INDEX, () -> x.mix(0, 0, 1, bad, 0));
            Due.refuses("13: element before aim", Due.INDEX, () -> x.mix(0, 1, 4, bad, 0));
            Due.refuses("13: part before aim", Due.INDEX, () -> x.mix(0, 1, 1, bad, 2));
            Due.refuses("13: range before meaning", Due.RANGE, () -> x.mix(0, 1, 2, bad, 0));
        }
        Due.refuses("13: they are one", Due.INDEX, () -> x.mix(7, 7, 1, 0, 0));
        Due.refuses("13: part before meaning", Due.INDEX, () -> x.mix(0, 1, 2, 0, 2));
    }

    private static void point() {
        BlendRows x = new BlendRows();
        for (int bad : new int[] {Integer.MIN_VALUE, -1, 10001, Integer.MAX_VALUE}) {
            Due.refuses("14: x " + bad, Due.RANGE, () -> x.point(bad, 0));
            Due.refuses("14: y " + bad, Due.RANGE, () -> x.point(0, bad));
        }
        for (int i = 1; i <= 20; i++) {
            int n = i;
            Due.is("14: point " + n, n, () -> x.point(n % 2 * 10000, n % 2 * 10000));
        }
        Due.refuses("14: point 21", Due.TURN, () -> x.point(1, 1));
        Due.refuses("14: turn before range", Due.TURN, () -> x.point(-1, 10001));
        Due.is("14: a refused point changes nothing", 1, () -> x.fit(0, 0));
        Due.is("14: nor the height", 0, () -> x.fit(1, 0));
    }

    private static void fitIs(BlendRows x, String when, long... wants) {
        Due.fraction("15: slope " + when, wants[0], wants[1],
                () -> x.fit(0, 0), () -> x.fit(0, 1));
        Due.fraction("15: height " + when, wants[2], wants[3],
                () -> x.fit(1, 0), () -> x.fit(1, 1));
    }

    private static void fit() {
        BlendRows x = new BlendRows();
        x.point(1, 3);
        x.point(1, 5);
        x.point(4, 2);
        fitIs(x, "that falls", -2, 3, 14, 3);
        x.point(4, 6);
        fitIs(x, "that is level", 0, 1, 4, 1);
        x.point(10, 9);
        // n 5, x 20, y 25, xx 134, xy 130: slope 150 over 270, height 750 over 270
        fitIs(x, "that rises", 5, 9, 25, 9);
        BlendRows y = new BlendRows();
        y.point(10, 0);
        y.point(20, 30);
        fitIs(y, "with a height below 0", 3, 1, -30, 1);
        BlendRows z = new BlendRows();
        z.point(0, 0);
        z.point(10000, 0);
        fitIs(z, "along the axis", 0, 1, 0, 1);
    }

    private static void fitRefuses() {
        BlendRows x = new BlendRows();
        Due.refuses("15: no points", Due.MEANING, () -> x.fit(0, 0));
        x.point(5, 5);
        Due.refuses("15: one point", Due.MEANING, () -> x.fit(1, 1));
        x.point(5, 9);
        Due.refuses("15: points above one another", Due.MEANING, () -> x.fit(0, 1));
        for (int bad : NO_PART) {
            Due.refuses("15: what " + bad, Due.INDEX, () -> x.fit(bad, 0));
            Due.refuses("15: part " + bad, Due.INDEX, () -> x.fit(0, bad));
        }
        x.point(6, 9);
        for (int bad : NO_PART) {
            Due.refuses("15: what " + bad + " of a line", Due.INDEX, () -> x.fit(bad, 0));
            Due.refuses("15: part " + bad + " of a line", Due.INDEX, () -> x.fit(1, bad));
        }
    }

    private static void fitOfGreatNumbers() {
        BlendRows x = new BlendRows();
        for (int i = 0; i < 20; i++) {
            x.point(10000 - i % 2, 10000 - i / 10);
        }
        // the halves are alike in x, so the line is level in the middle
        fitIs(x, "of great numbers", 0, 1, 19999, 2);
        BlendRows y = new BlendRows();
        y.point(0, 10000);
        for (int i = 1; i < 20; i++) {
            y.point(10000, 0);
        }
        fitIs(y, "of one against nineteen", -1, 1, 10000, 1);
    }
}
