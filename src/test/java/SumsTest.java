/** Promises 8 and 9: sum, sumCorner. */
public final class SumsTest {
    public static void main(String[] args) {
        sumOfSpanTwo();
        sumOfLessSpan();
        sumWithNothing();
        sumCorners();
        Due.end();
    }

    private static void sums(MixedCells m, int a, int b, int... due) {
        for (int what = 0; what < due.length; what++) {
            Due.is("sum(" + a + ", " + b + ", " + what + ")", m.sum(a, b, what), due[what]);
            Due.is("sum(" + b + ", " + a + ", " + what + ")", m.sum(b, a, what), due[what]);
        }
    }

    private static void sumOfSpanTwo() {
        MixedCells m = new MixedCells();
        Build.fill(m, 0, 0, 0, 0, 12, 0, 0, 12, 12, 0, 0, 12, 0);
        Build.fill(m, 1, 0, 0, 9, 3, 0, 9, 0, 3, 9);
        Build.fill(m, 2, 0, 12, 0, 12, 0, 0);
        sums(m, 0, 1, 12, 441, 5, 144);
        sums(m, 0, 0, 9, 1152, 4, 576);
        sums(m, 0, 2, 7, 864, 6, 576);
        sums(m, 1, 1, 6, 36, 3, 18);
        sums(m, 1, 2, 6, 81, 4, 72);
        Due.is("the weights don't matter", m.put(1, 0, 0, 1), 0);
        sums(m, 0, 1, 12, 441, 5, 144);
    }

    private static void sumOfLessSpan() {
        MixedCells m = new MixedCells();
        Build.fill(m, 0, 5, 7, 0);
        Build.fill(m, 1, 0, 0, 0, 1, 2, 0, 3, 6, 0);
        Build.fill(m, 2, 4, 0, 0, 0, 2, 0);
        Build.fill(m, 3, 0, 0, 0, 2, 0, 0, 0, 2, 0);
        sums(m, 0, 0, 1, 0, 1, 0);
        sums(m, 0, 1, 3, 0, 2, 0);
        sums(m, 1, 1, 6, 0, 2, 0);
        sums(m, 1, 2, 6, 60, 4, 60);
        sums(m, 0, 3, 3, 4, 3, 0);
    }

    private static void sumWithNothing() {
        MixedCells m = new MixedCells();
        Build.fill(m, 0, 0, 0, 0, 12, 0, 0, 12, 12, 0, 0, 12, 0);
        sums(m, 0, 1, 0, 0, 0, 0);
        sums(m, 1, 2, 0, 0, 0, 0);
        sums(m, 1, 1, 0, 0, 0, 0);
        Due.is("sumCorner(0, 1, 0, 0)", m.sumCorner(0, 1, 0, 0), -6);
    }

    private static void corners(MixedCells m, int a, int b, int... due) {
        for (int i = 0; 2 * i + 1 < due.length; i++) {
            Due.is("sumCorner(" + a + ", " + b + ", " + i + ", 0)", m.sumCorner(a, b, i, 0), due[2 * i]);
            Due.is("sumCorner(" + a + ", " + b + ", " + i + ", 1)", m.sumCorner(a, b, i, 1), due[2 * i + 1]);
        }
        Due.is("as many as told", m.sum(a, b, 2), due.length / 2);
        for (int what = 0; what < 2; what++) {
            Due.is("behind the last corner, " + what, m.sumCorner(a, b, due.length / 2, what), -6);
            Due.is("ahead of the first corner, " + what, m.sumCorner(a, b, -1, what), -6);
        }
    }

    private static void sumCorners() {
        MixedCells m = new MixedCells();
        Build.fill(m, 0, 0, 0, 0, 12, 0, 0, 12, 12, 0, 0, 12, 0);
        Build.fill(m, 1, 0, 0, 9, 3, 0, 9, 0, 3, 9);
        Build.fill(m, 2, 0, 12, 0, 12, 0, 0);
        Build.fill(m, 3, 5, 7, 0);
        corners(m, 0, 1, 0, 0, 15, 0, 15, 12, 12, 15, 0, 15);
        corners(m, 0, 2, 12, 0, 24, 0, 24, 12, 12, 24, 0, 24, 0, 12);
        corners(m, 2, 2, 24, 0, 0, 24);
        corners(m, 3, 3, 10, 14);
        corners(m, 3, 1, 5, 7, 8, 7, 5, 10);
    }
}
