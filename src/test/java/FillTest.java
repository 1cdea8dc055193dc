import java.math.BigInteger;
import java.util.Random;

/**
 * Cells of many bodies, without any way of finding them: each one that is told is a cell by the document's words, and
 * since cells don't lie over one another, none is missing if their areas are together that of the sum's hull.
 */
public final class FillTest {
    private final MixedCells m = new MixedCells();
    private final Random random;
    /* As they were put: x, y, weight of each point; unlike places, so that point k is row k. */
    private final int[][][] points = {new int[7][], new int[7][]};
    private final String name;

    private FillTest(int seed) {
        random = new Random(seed);
        name = "bodies " + seed;
        for (int body = 0; body < 2; body++) {
            fill(body, new int[] {3, 6, 12}[random.nextInt(3)], seed % 4);
        }
    }

    public static void main(String[] args) {
        for (int seed = 0; seed < 600; seed++) {
            new FillTest(seed).check();
        }
        Due.end();
    }

    private void fill(int body, int widest, int kind) {
        // More tries than points, since a place may come twice; the calls stay far below 512.
        for (int tries = 0; tries < 20 && m.count(body) < 7; tries++) {
            int x = random.nextInt(widest + 1);
            int y = random.nextInt(widest + 1);
            int weight = weight(kind, x, y);
            points[body][m.put(body, x, y, weight)] = new int[] {x, y, weight};
        }
    }

    private int weight(int kind, int x, int y) {
        switch (kind) {
            case 0:
                return random.nextInt(51);
            case 1:
                // A bowl: most points are low by some slope.
                return ((x - 6) * (x - 6) + (y - 6) * (y - 6)) * 50 / 72;
            case 2:
                return random.nextInt(2) * 50;
            default:
                // Near a plane: many low points at once.
                return 2 * x + y + random.nextInt(4) / 3;
        }
    }

    private void check() {
        int cells = m.cells(0, 1, 0);
        int area = 0;
        BigInteger[] last = null;
        for (int i = 0; i < cells; i++) {
            BigInteger[] slope = slope(i);
            Due.holds(name + ", cell " + i + ": in lowest terms", isLowest(slope[0], slope[1]) && isLowest(slope[2], slope[3]));
            Due.holds(name + ", cell " + i + ": comes behind the last one", last == null || isRising(last, slope));
            Due.is(name + ", cell " + i + ": low points of the first", m.cell(0, 1, i, 3), low(0, slope));
            Due.is(name + ", cell " + i + ": low points of the second", m.cell(0, 1, i, 4), low(1, slope));
            int own = m.cell(0, 1, i, 1);
            // An area above 0: its sums have span 2.
            Due.holds(name + ", cell " + i + ": has an area", own > 0);
            area += own;
            last = slope;
        }
        Due.is(name + ": none behind the last", m.cell(0, 1, cells, 0), -6);
        Due.is(name + ": none is missing", area, m.sum(0, 1, 1));
    }

    private BigInteger[] slope(int i) {
        BigInteger[] slope = new BigInteger[4];
        for (int what = 0; what < 4; what++) {
            slope[what] = BigInteger.valueOf(m.slope(0, 1, i, what) - (what % 2 == 0 ? 100000 : 0));
        }
        return slope;
    }

    private static boolean isLowest(BigInteger upper, BigInteger lower) {
        return lower.signum() > 0 && upper.gcd(lower).equals(BigInteger.ONE);
    }

    private static boolean isRising(BigInteger[] s, BigInteger[] t) {
        int byU = s[0].multiply(t[1]).compareTo(t[0].multiply(s[1]));
        return byU < 0 || byU == 0 && s[2].multiply(t[3]).compareTo(t[2].multiply(s[3])) < 0;
    }

    private int low(int body, BigInteger[] slope) {
        int set = 0;
        BigInteger least = null;
        for (int k = 0; k < 7 && points[body][k] != null; k++) {
            BigInteger height = height(points[body][k], slope);
            int order = least == null ? -1 : height.compareTo(least);
            least = order < 0 ? height : least;
            set = order < 0 ? 1 << k : order == 0 ? set | 1 << k : set;
        }
        return set;
    }

    /** Times both lower numbers, to stay with whole ones. */
    private static BigInteger height(int[] point, BigInteger[] slope) {
        BigInteger x = BigInteger.valueOf(point[0]).multiply(slope[0]).multiply(slope[3]);
        BigInteger y = BigInteger.valueOf(point[1]).multiply(slope[2]).multiply(slope[1]);
        return BigInteger.valueOf(point[2]).multiply(slope[1]).multiply(slope[3]).add(x).add(y);
    }
}
