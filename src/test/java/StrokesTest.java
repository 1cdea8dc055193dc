/** Promises 14 and 15: fan, roots. */
public final class StrokesTest {
    public static void main(String[] args) {
        fan();
        rootsByHand();
        rootsOfTwo();
        Due.end();
    }

    private static void fan(MixedCells m, String name, int... due) {
        for (int what = 0; what < due.length; what++) {
            Due.is(name + ": fan(0, " + what + ")", m.fan(0, what), due[what]);
        }
    }

    private static void fan() {
        MixedCells m = new MixedCells();
        fan(m, "no points", 0, 1, 1);
        m.put(0, 0, 0, 50);
        fan(m, "the stroke that goes nowhere", 0, 1, 1);
        m.put(0, 3, 6, 0);
        fan(m, "one stroke", 0, 2, 2);
        m.put(0, 1, 2, 0);
        fan(m, "two strokes one way", 0, 2, 4);
        m.put(0, 2, 4, 0);
        fan(m, "three strokes one way, of 1, 2, 3", 0, 2, 7);
        m.put(0, 5, 0, 0);
        fan(m, "one across", 120, 4, 14);
        m.clear(0);
        Build.fill(m, 0, 12, 12, 0, 12, 11, 0, 11, 12, 0, 12, 10, 0, 10, 12, 0, 12, 9, 0, 9, 12, 0);
        fan(m, "seven long strokes", 2 * areaByPairs(m), 14, 112);
        m.clear(0);
        Build.fill(m, 0, 1, 0, 0, 2, 0, 0, 4, 0, 0, 8, 0, 0, 0, 1, 0, 0, 2, 0, 0, 4, 0);
        fan(m, "all sums unlike", 2 * 15 * 7, 4, 128);
    }

    /* The area of a sum of strokes is that of all their pairs, added. */
    private static int areaByPairs(MixedCells m) {
        int area = 0;
        for (int i = 0; i < m.count(0); i++) {
            for (int j = 0; j < i; j++) {
                area += Math.abs(m.point(0, i, 0) * m.point(0, j, 1) - m.point(0, j, 0) * m.point(0, i, 1));
            }
        }
        return area;
    }

    private static void rootsByHand() {
        int[] primes = {2, 3, 5, 7, 11, 13};
        MixedCells m = new MixedCells();
        for (int p : primes) {
            Due.is("no points: roots(0, 0, " + p + ")", m.roots(0, 0, p), (p - 1) * (p - 1));
        }
        m.put(0, 3, 4, 1);
        for (int p : primes) {
            Due.is("one power: roots(0, 0, " + p + ")", m.roots(0, 0, p), 0);
            Due.is("one power and nothing: roots(1, 0, " + p + ")", m.roots(1, 0, p), 0);
        }
        m.put(0, 3, 4, 26);
        Due.is("26 is 0 by 13", m.roots(0, 0, 13), 144);
        Due.is("26 is 0 by 2", m.roots(0, 0, 2), 1);
        Due.is("26 is 1 by 5", m.roots(0, 0, 5), 0);
        m.clear(0);
        Build.fill(m, 0, 12, 0, 1, 0, 0, 12);
        Due.is("a to the power of 12 is 1 by 13", m.roots(0, 0, 13), 144);
        Build.fill(m, 1, 0, 12, 1, 0, 0, 11);
        Due.is("b to the power of 12 is not 2 by 13", m.roots(1, 1, 13), 0);
    }

    private static void rootsOfTwo() {
        MixedCells m = new MixedCells();
        Build.fill(m, 0, 1, 0, 1, 0, 0, 5);
        Build.fill(m, 1, 0, 1, 1, 0, 0, 4);
        Build.fill(m, 2, 2, 0, 1, 0, 0, 10);
        Build.fill(m, 3, 0, 0, 0);
        Due.is("a = 6, any b, by 11", m.roots(0, 0, 11), 10);
        Due.is("a = 6, b = 7 by 11", m.roots(0, 1, 11), 1);
        Due.is("b = 7, a = 6 by 11", m.roots(1, 0, 11), 1);
        Due.is("a is 1 or 10 by 11", m.roots(2, 2, 11), 20);
        Due.is("a = 6, and 1 or 10, by 11", m.roots(0, 2, 11), 0);
        Due.is("a is 2, and 2 or 5, by 7", m.roots(0, 2, 7), 6);
        Due.is("a point of weight 0 holds always", m.roots(3, 0, 11), 10);
    }
}
