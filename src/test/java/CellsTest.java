/** Promises 10 to 13: cells, cell, slope, low. */
public final class CellsTest {
    public static void main(String[] args) {
        allKinds();
        mixedKinds();
        noCells();
        cellsOfOneSlope();
        slopesInLowestTerms();
        cellsAsThingsAre();
        low();
        Due.end();
    }

    private static void kinds(MixedCells m, int a, int b, int... due) {
        int[] asked = {0, 1, 2, 102, 111, 112, 120, 121, 122};
        for (int i = 0; i < due.length; i++) {
            Due.is("cells(" + a + ", " + b + ", " + asked[i] + ")", m.cells(a, b, asked[i]), due[i]);
        }
    }

    /* One cell: KIND, AREA, MIXED, the two sets. */
    private static void cell(MixedCells m, int a, int b, int i, int... due) {
        for (int what = 0; what < due.length; what++) {
            Due.is("cell(" + a + ", " + b + ", " + i + ", " + what + ")", m.cell(a, b, i, what), due[what]);
        }
    }

    private static void slope(MixedCells m, int a, int b, int i, int... due) {
        for (int what = 0; what < due.length; what++) {
            int lift = what % 2 == 0 ? 100000 : 0;
            Due.is("slope(" + a + ", " + b + ", " + i + ", " + what + ")", m.slope(a, b, i, what), due[what] + lift);
        }
    }

    private static void allKinds() {
        MixedCells m = new MixedCells();
        Build.fill(m, 0, 0, 0, 0, 1, 0, 0, 0, 1, 0);
        Build.fill(m, 1, 0, 0, 0, 1, 0, 0, 0, 1, 0);
        kinds(m, 0, 1, 1, 4, 2, 0, 0, 0, 0, 0, 1);
        cell(m, 0, 1, 0, 22, 4, 2, 7, 7);
        slope(m, 0, 1, 0, 0, 1, 0, 1);
        m.put(1, 1, 0, 5);
        m.put(1, 0, 1, 5);
        // At the slope (-5, -5) all of B is low, and the long side of A; at (0, 0) all of A, and a point of B.
        kinds(m, 0, 1, 2, 4, 2, 0, 0, 1, 1, 0, 0);
        cell(m, 0, 1, 0, 12, 3, 2, 6, 7);
        slope(m, 0, 1, 0, -5, 1, -5, 1);
        cell(m, 0, 1, 1, 20, 1, 0, 7, 1);
        m.put(1, 0, 1, 0);
        // Now all of A is low with the upright side of B, and at (-5, 0) all of B with a point of A.
        kinds(m, 0, 1, 2, 4, 2, 1, 0, 0, 0, 1, 0);
        cell(m, 0, 1, 0, 2, 1, 0, 2, 7);
        cell(m, 0, 1, 1, 21, 3, 2, 7, 5);
    }

    private static void mixedKinds() {
        MixedCells m = new MixedCells();
        Build.fill(m, 0, 0, 0, 0, 4, 0, 0);
        Build.fill(m, 1, 0, 0, 0, 0, 6, 0);
        kinds(m, 0, 1, 1, 48, 48, 0, 1, 0, 0, 0, 0);
        cell(m, 0, 1, 0, 11, 48, 48, 3, 3);
        Build.fill(m, 2, 0, 0, 0, 2, 0, 0, 2, 2, 0, 0, 2, 0);
        Build.fill(m, 3, 5, 5, 20);
        kinds(m, 2, 3, 1, 8, 0, 0, 0, 0, 1, 0, 0);
        kinds(m, 3, 2, 1, 8, 0, 1, 0, 0, 0, 0, 0);
        kinds(m, 0, 2, 1, 24, 16, 0, 0, 1, 0, 0, 0);
        kinds(m, 2, 0, 1, 24, 16, 0, 0, 0, 0, 1, 0);
        cell(m, 0, 2, 0, 12, 24, 16, 3, 15);
        cell(m, 2, 0, 0, 21, 24, 16, 15, 3);
    }

    private static void noCells() {
        MixedCells m = new MixedCells();
        Build.fill(m, 0, 0, 0, 0, 4, 0, 0, 0, 4, 3);
        Build.fill(m, 2, 0, 0, 0, 1, 1, 2, 2, 2, 1);
        Build.fill(m, 3, 1, 0, 0, 3, 2, 9);
        kinds(m, 0, 1, 0, 0, 0, 0, 0, 0, 0, 0, 0);
        kinds(m, 1, 0, 0, 0, 0, 0, 0, 0, 0, 0, 0);
        kinds(m, 1, 1, 0, 0, 0, 0, 0, 0, 0, 0, 0);
        kinds(m, 2, 3, 0, 0, 0, 0, 0, 0, 0, 0, 0);
        for (int what = 0; what < 5; what++) {
            Due.is("cell(1, 0, 0, " + what + ")", m.cell(1, 0, 0, what), -6);
            Due.is("cell(2, 3, 0, " + what + ")", m.cell(2, 3, 0, what), -6);
            Due.is("cell(0, 0, 1, " + what + ")", m.cell(0, 0, 1, what), -6);
            Due.is("cell(0, 0, -1, " + what + ")", m.cell(0, 0, -1, what), -6);
        }
        for (int what = 0; what < 4; what++) {
            Due.is("slope(1, 0, 0, " + what + ")", m.slope(1, 0, 0, what), -6);
            Due.is("slope(0, 0, 1, " + what + ")", m.slope(0, 0, 1, what), -6);
            Due.is("slope(0, 0, -1, " + what + ")", m.slope(0, 0, -1, what), -6);
        }
    }

    /* Many pairs of points tell one slope; it is one cell all the same. */
    private static void cellsOfOneSlope() {
        MixedCells m = new MixedCells();
        Build.fill(m, 0, 0, 0, 5, 6, 0, 5, 12, 0, 5, 0, 12, 5, 12, 12, 5, 6, 6, 5, 3, 9, 5);
        kinds(m, 0, 0, 1, 1152, 576, 0, 0, 0, 0, 0, 1);
        cell(m, 0, 0, 0, 22, 1152, 576, 127, 127);
        m.put(0, 6, 6, 4);
        Due.is("the point within lowered: cells", m.cells(0, 0, 0), 4);
        Due.is("the point within lowered: areas", m.cells(0, 0, 1), 1152);
    }

    private static void slopesInLowestTerms() {
        MixedCells m = new MixedCells();
        Build.fill(m, 0, 0, 0, 0, 12, 0, 50, 0, 12, 8);
        Build.fill(m, 1, 0, 0, 0);
        slope(m, 0, 1, 0, -25, 6, -2, 3);
        m.put(0, 0, 0, 50);
        m.put(0, 12, 0, 0);
        m.put(0, 0, 12, 50);
        slope(m, 0, 1, 0, 25, 6, 0, 1);
        m.clear(0);
        // The steepest: the weights differ by 50, and the coordinates by 1.
        Build.fill(m, 0, 0, 0, 50, 1, 12, 0, 0, 1, 0);
        slope(m, 0, 1, 0, -550, 1, 50, 1);
        cell(m, 0, 1, 0, 20, 1, 0, 7, 1);
        m.clear(0);
        Build.fill(m, 0, 0, 0, 0, 12, 11, 50, 11, 12, 0);
        slope(m, 0, 1, 0, -600, 23, 550, 23);
    }

    /* Rising u, of one u rising v; and nothing is left of what was asked earlier. */
    private static void cellsAsThingsAre() {
        MixedCells m = new MixedCells();
        Build.fill(m, 0, 0, 0, 4, 0, 1, 1, 0, 2, 0, 0, 3, 1, 0, 4, 4);
        Build.fill(m, 1, 0, 0, 0, 1, 0, 0);
        Due.is("cells(0, 1, 0)", m.cells(0, 1, 0), 4);
        slope(m, 0, 1, 0, 0, 1, -3, 1);
        slope(m, 0, 1, 1, 0, 1, -1, 1);
        slope(m, 0, 1, 2, 0, 1, 1, 1);
        slope(m, 0, 1, 3, 0, 1, 3, 1);
        cell(m, 0, 1, 0, 11, 2, 2, 8 | 16, 3);
        Due.is("take(0, 2)", m.take(0, 2), 4);
        Due.is("cells(0, 1, 0)", m.cells(0, 1, 0), 3);
        cell(m, 0, 1, 1, 11, 4, 4, 2 | 4, 3);
        slope(m, 0, 1, 1, 0, 1, 0, 1);
        Due.is("cell(0, 1, 3, 0)", m.cell(0, 1, 3, 0), -6);
    }

    private static void low() {
        MixedCells m = new MixedCells();
        Due.is("low of no points", m.low(0, 0, 0), 0);
        Build.fill(m, 0, 0, 0, 10, 1, 0, 10, 0, 1, 10, 1, 1, 10, 12, 12, 50, 12, 0, 9, 0, 12, 9);
        Due.is("low(0, 0, 0)", m.low(0, 0, 0), 32 | 64);
        Due.is("low(0, 1, 1)", m.low(0, 1, 1), 1);
        Due.is("low(0, 1, 0)", m.low(0, 1, 0), 64);
        Due.is("low(0, 0, 1)", m.low(0, 0, 1), 32);
        Due.is("low(0, 1000, 1000)", m.low(0, 1000, 1000), 1);
        Due.is("low(0, -1000, -1000)", m.low(0, -1000, -1000), 16);
        Due.is("low(0, -1000, 1000)", m.low(0, -1000, 1000), 32);
        Due.is("low(0, 1000, -1000)", m.low(0, 1000, -1000), 64);
        m.take(0, 6);
        m.take(0, 5);
        Due.is("low(0, 0, 0), all alike but one", m.low(0, 0, 0), 15);
        Due.is("low(0, 0, 5)", m.low(0, 0, 5), 3);
        m.clear(0);
        Build.fill(m, 0, 0, 0, 9, 1, 0, 6, 0, 2, 11, 3, 3, 3);
        Due.is("low(0, 3, -1): u, v and the weights each count once", m.low(0, 3, -1), 1 | 2 | 4 | 8);
        Due.is("low(0, 4, -1)", m.low(0, 4, -1), 1 | 4);
        Due.is("low(0, 3, 0)", m.low(0, 3, 0), 1 | 2);
    }
}
