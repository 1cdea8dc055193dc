/**
 * The edges that promises 10 to 13 and part 3 of the terms name: cells, cell, slope, low.
 * Ahead of each test stands the sentence that it is for.
 */
public final class EdgesOfCellsTest {
    private static final int[] KINDS = {0, 1, 2, 102, 111, 112, 120, 121, 122};
    private static final int LEAST = Integer.MIN_VALUE;
    private static final int MOST = Integer.MAX_VALUE;

    public static void main(String[] args) {
        withoutPoints();
        lessThanSpanTwo();
        eachKind();
        oneWithItself();
        noTwoOfOneSlope();
        manyCells();
        risingFractions();
        risingV();
        steepest();
        largestLowerNumber();
        lowestTerms();
        setsOfSeven();
        notAllOfACellIsACorner();
        whatIsOneOfNine();
        whatEnds();
        lowEnds();
        lowTies();
        Due.end();
    }

    /** How many cells, their areas, their mixed, how many of each kind. */
    private static void cells(String name, MixedCells m, int a, int b, int... due) {
        for (int i = 0; i < due.length; i++) {
            Due.is(name + ": cells(" + a + ", " + b + ", " + KINDS[i] + ")", m.cells(a, b, KINDS[i]), due[i]);
        }
        noneBeside(name, m, a, b, due[0]);
    }

    // "NONE: there is none such (i below 0, too)", of cell and of slope.
    private static void noneBeside(String name, MixedCells m, int a, int b, int many) {
        for (int i : new int[] {-1, -2, many, many + 1, 94, LEAST, MOST}) {
            for (int what = 0; what < 5; what++) {
                Due.is(name + ": cell(.., " + i + ", " + what + ")", m.cell(a, b, i, what), -6);
            }
            for (int what = 0; what < 4; what++) {
                Due.is(name + ": slope(.., " + i + ", " + what + ")", m.slope(a, b, i, what), -6);
            }
        }
    }

    /** Of one cell: KIND, AREA, MIXED, the two sets; and the numbers of its slope. */
    private static void cell(String name, MixedCells m, int a, int b, int i, int[] due, int[] slope) {
        for (int what = 0; what < 5; what++) {
            Due.is(name + ": cell(.., " + i + ", " + what + ")", m.cell(a, b, i, what), due[what]);
        }
        for (int what = 0; what < 4; what++) {
            int lift = what % 2 == 0 ? 100000 : 0;
            Due.is(name + ": slope(.., " + i + ", " + what + ")", m.slope(a, b, i, what), slope[what] + lift);
        }
    }

    private static int[] row(int... numbers) {
        return numbers;
    }

    // "(If A or B has no POINTS there is none.)"
    private static void withoutPoints() {
        MixedCells m = new MixedCells();
        Build.fillFlat(m, 0, 3, Build.SEVEN_CORNERS);
        cells("seven corners and nothing", m, 0, 1, 0, 0, 0, 0, 0, 0, 0, 0, 0);
        cells("nothing and seven corners", m, 1, 0, 0, 0, 0, 0, 0, 0, 0, 0, 0);
        cells("nothing with itself", m, 3, 3, 0, 0, 0, 0, 0, 0, 0, 0, 0);
        m.put(1, 12, 12, 50);
        cells("seven corners and one point", m, 0, 1, 1, 208, 0, 0, 0, 0, 1, 0, 0);
        m.clear(1);
        cells("seven corners and nothing, once more", m, 0, 1, 0, 0, 0, 0, 0, 0, 0, 0, 0);
    }

    // "a SLOPE for which all sums of a LOW POINT of A and a LOW POINT of B together have SPAN 2"
    private static void lessThanSpanTwo() {
        MixedCells m = Build.one(3, 4, 5);
        Build.fill(m, 1, 0, 0, 9, 2, 1, 0, 4, 2, 9, 6, 3, 1, 8, 4, 50, 10, 5, 2, 12, 6, 0);
        Build.fill(m, 2, 1, 1, 0, 3, 2, 7, 5, 3, 1);
        Build.fill(m, 3, 0, 0, 0, 1, 0, 0);
        cells("one point with itself", m, 0, 0, 0, 0, 0, 0, 0, 0, 0, 0, 0);
        cells("one point and a line", m, 0, 1, 0, 0, 0, 0, 0, 0, 0, 0, 0);
        cells("a line and one point", m, 1, 0, 0, 0, 0, 0, 0, 0, 0, 0, 0);
        cells("a line with itself", m, 1, 1, 0, 0, 0, 0, 0, 0, 0, 0, 0);
        cells("two lines one way", m, 1, 2, 0, 0, 0, 0, 0, 0, 0, 0, 0);
        // Those of the line that lie above the others are never low: from 0 to 1, to 6.
        cells("two lines not one way", m, 1, 3, 2, 12, 12, 0, 2, 0, 0, 0, 0);
    }

    // "KIND of a CELL: 10 times the SPAN of the LOW POINTS of A, and the SPAN of those of B, added.";
    // "Its MIXED: that, less the AREAS of the HULLS of its LOW POINTS of A, and of B."
    private static void eachKind() {
        MixedCells m = Build.one(0, 0, 0, 2, 0, 0, 0, 2, 0);
        Build.fill(m, 1, 5, 5, 50);
        Build.fill(m, 2, 0, 0, 0, 1, 0, 0);
        Build.fill(m, 3, 0, 0, 0, 0, 1, 0);
        int[] flat = row(0, 1, 0, 1);
        cells("a point and a triangle", m, 1, 0, 1, 4, 0, 1, 0, 0, 0, 0, 0);
        cell("a point and a triangle", m, 1, 0, 0, row(2, 4, 0, 1, 7), flat);
        cells("a line and a line", m, 2, 3, 1, 2, 2, 0, 1, 0, 0, 0, 0);
        cell("a line and a line", m, 2, 3, 0, row(11, 2, 2, 3, 3), flat);
        cells("a line and a triangle", m, 2, 0, 1, 8, 4, 0, 0, 1, 0, 0, 0);
        cell("a line and a triangle", m, 2, 0, 0, row(12, 8, 4, 3, 7), flat);
        cells("a triangle and a point", m, 0, 1, 1, 4, 0, 0, 0, 0, 1, 0, 0);
        cell("a triangle and a point", m, 0, 1, 0, row(20, 4, 0, 7, 1), flat);
        cells("a triangle and a line", m, 0, 3, 1, 8, 4, 0, 0, 0, 0, 1, 0);
        cell("a triangle and a line", m, 0, 3, 0, row(21, 8, 4, 7, 3), flat);
        cells("a triangle with itself", m, 0, 0, 1, 16, 8, 0, 0, 0, 0, 0, 1);
        cell("a triangle with itself", m, 0, 0, 0, row(22, 16, 8, 7, 7), flat);
    }

    // "Of the CELLS of two BODIES", which may be one: each cell is that of the body, twice as wide.
    private static void oneWithItself() {
        MixedCells m = Build.one(0, 0, 0, 4, 0, 0, 4, 4, 8, 0, 4, 0);
        cells("a square of two halves with itself", m, 0, 0, 2, 128, 64, 0, 0, 0, 0, 0, 2);
        // At (-2, -2): -8 for (4, 0), (0, 4) and (4, 4).
        cell("a square of two halves with itself", m, 0, 0, 0, row(22, 64, 32, 14, 14), row(-2, 1, -2, 1));
        cell("a square of two halves with itself", m, 0, 0, 1, row(22, 64, 32, 11, 11), row(0, 1, 0, 1));
    }

    // "(No two CELLS have one SLOPE. If the SUM has SPAN 2 their HULLS .. fill the HULL of the SUM, none lying over
    // another one.)"
    private static void noTwoOfOneSlope() {
        MixedCells m = new MixedCells();
        Build.fillFlat(m, 0, 50, Build.SEVEN_CORNERS);
        Build.fillFlat(m, 1, 0, Build.OTHER_SEVEN_CORNERS);
        int area = m.sum(0, 1, 1);
        cells("seven and seven, flat", m, 0, 1, 1, area, area - 208 - m.hull(1, 0), 0, 0, 0, 0, 0, 1);
        cell("seven and seven, flat", m, 0, 1, 0, row(22, area, area - 208 - m.hull(1, 0), 127, 127), row(0, 1, 0, 1));
        // Weights that are as a plane: all low at one slope that is not flat.
        MixedCells plane = new MixedCells();
        for (int k = 0; k < 7; k++) {
            int x = Build.SEVEN_CORNERS[2 * k];
            int y = Build.SEVEN_CORNERS[2 * k + 1];
            plane.put(0, x, y, 10 + 2 * x - y / 2);
            plane.put(1, x, y, 2 * x + 6 - y / 2);
        }
        cells("seven and seven on one plane", plane, 0, 1, 1, 832, 416, 0, 0, 0, 0, 0, 1);
        cell("seven and seven on one plane", plane, 0, 1, 0, row(22, 832, 416, 127, 127), row(-2, 1, 1, 2));
    }

    /** On a line, the weights as the squares: each two neighbours are low at a slope of their own. */
    private static void squares(MixedCells m, int body, int x, int y) {
        for (int k = 0; k < 7; k++) {
            m.put(body, k * x, k * y, k * k);
        }
    }

    // "CELLS are numbered from 0 on by rising u, of one u by rising v."
    private static void manyCells() {
        MixedCells m = new MixedCells();
        squares(m, 0, 1, 0);
        squares(m, 1, 0, 2);
        cells("six by six", m, 0, 1, 36, 144, 144, 0, 36, 0, 0, 0, 0);
        for (int i = 0; i < 36; i++) {
            int ofA = 5 - i / 6;
            int ofB = 5 - i % 6;
            // The weights grow by 2 k + 1 on a way of 2, which has no lower terms.
            cell("six by six", m, 0, 1, i, row(11, 4, 4, 3 << ofA, 3 << ofB),
                    row(-2 * ofA - 1, 1, -2 * ofB - 1, 2));
        }
    }

    // "by rising u": fractions, below and above 0, by what they are and not by their upper numbers.
    private static void risingFractions() {
        MixedCells m = Build.one(0, 0, 2, 2, 0, 1, 5, 0, 0, 6, 0, 0, 9, 0, 1, 11, 0, 2);
        Build.fill(m, 1, 3, 3, 7, 3, 4, 7);
        cells("five on a line", m, 0, 1, 5, 22, 22, 0, 5, 0, 0, 0, 0);
        int[][] due = {{-1, 2, 2, 48}, {-1, 3, 3, 24}, {0, 1, 1, 12}, {1, 3, 3, 6}, {1, 2, 2, 3}};
        for (int i = 0; i < 5; i++) {
            cell("five on a line", m, 0, 1, i, row(11, 2 * due[i][2], 2 * due[i][2], due[i][3], 3),
                    row(due[i][0], due[i][1], 0, 1));
        }
        // 1/12 comes ahead of 1/11.
        MixedCells near = Build.one(0, 0, 1, 12, 0, 0);
        Build.fill(near, 1, 0, 0, 1, 11, 0, 0, 0, 1, 1);
        cells("side by side", near, 0, 1, 2, 35, 24, 1, 1, 0, 0, 0, 0);
        cell("side by side", near, 0, 1, 0, row(11, 24, 24, 3, 6), row(1, 12, -1, 12));
        cell("side by side", near, 0, 1, 1, row(2, 11, 0, 1, 7), row(1, 11, 0, 1));
    }

    // "of one u by rising v"
    private static void risingV() {
        MixedCells m = Build.one(7, 0, 0, 8, 0, 0);
        Build.fill(m, 1, 0, 0, 2, 0, 2, 1, 0, 5, 0, 0, 6, 0, 0, 9, 1, 0, 11, 2);
        cells("five on an upright line", m, 0, 1, 5, 22, 22, 0, 5, 0, 0, 0, 0);
        int[][] due = {{-1, 2, 2, 48}, {-1, 3, 3, 24}, {0, 1, 1, 12}, {1, 3, 3, 6}, {1, 2, 2, 3}};
        for (int i = 0; i < 5; i++) {
            cell("five on an upright line", m, 0, 1, i, row(11, 2 * due[i][2], 2 * due[i][2], 3, due[i][3]),
                    row(0, 1, due[i][0], due[i][1]));
        }
    }

    // slope: "100000 added to upper ones": the steepest there are, below and above 0.
    private static void steepest() {
        MixedCells m = Build.one(0, 0, 0, 1, 12, 50);
        Build.fill(m, 1, 1, 11, 0, 0, 0, 50);
        cells("u rising", m, 0, 1, 1, 2, 2, 0, 1, 0, 0, 0, 0);
        cell("u rising", m, 0, 1, 0, row(11, 2, 2, 3, 3), row(1150, 1, -100, 1));
        MixedCells falling = Build.one(0, 0, 50, 1, 12, 0);
        Build.fill(falling, 1, 1, 11, 50, 0, 0, 0);
        cell("u falling", falling, 0, 1, 0, row(11, 2, 2, 3, 3), row(-1150, 1, 100, 1));
        MixedCells across = Build.one(0, 0, 0, 12, 1, 50);
        Build.fill(across, 1, 11, 1, 0, 0, 0, 50);
        cell("v rising", across, 0, 1, 0, row(11, 2, 2, 3, 3), row(-100, 1, 1150, 1));
        MixedCells back = Build.one(0, 0, 50, 12, 1, 0);
        Build.fill(back, 1, 11, 1, 50, 0, 0, 0);
        cell("v falling", back, 0, 1, 0, row(11, 2, 2, 3, 3), row(100, 1, -1150, 1));
    }

    // slope: "the lower one": the largest there is.
    private static void largestLowerNumber() {
        MixedCells m = Build.one(0, 0, 0, 12, 11, 0);
        Build.fill(m, 1, 12, 0, 0, 0, 12, 1);
        cells("276 below", m, 0, 1, 1, 552, 552, 0, 1, 0, 0, 0, 0);
        cell("276 below", m, 0, 1, 0, row(11, 552, 552, 3, 3), row(11, 276, -1, 23));
        Build.fill(m, 3, 12, 1, 0, 0, 12, 1);
        cell("264 below, not in lowest terms", m, 0, 3, 0, row(11, 528, 528, 3, 3), row(1, 24, -1, 22));
    }

    // slope: "in lowest terms, lower ones above 0"
    private static void lowestTerms() {
        MixedCells m = Build.one(0, 0, 50, 12, 0, 0, 0, 12, 44);
        Build.fill(m, 1, 0, 0, 0);
        cell("both above 0", m, 0, 1, 0, row(20, 144, 0, 7, 1), row(25, 6, 1, 2));
        cell("both above 0, of the second", m, 1, 0, 0, row(2, 144, 0, 1, 7), row(25, 6, 1, 2));
        MixedCells below = Build.one(0, 0, 0, 12, 0, 50, 0, 12, 6);
        Build.fill(below, 1, 0, 0, 0);
        cell("both below 0", below, 0, 1, 0, row(20, 144, 0, 7, 1), row(-25, 6, -1, 2));
        MixedCells whole = Build.one(0, 0, 12, 12, 0, 0, 0, 12, 12);
        Build.fill(whole, 1, 0, 0, 0);
        cell("a whole number, and 0", whole, 0, 1, 0, row(20, 144, 0, 7, 1), row(1, 1, 0, 1));
        MixedCells prime = Build.one(0, 0, 49, 11, 0, 0, 0, 7, 0);
        Build.fill(prime, 1, 0, 0, 0);
        cell("49 by 11 stays, 49 by 7 is 7", prime, 0, 1, 0, row(20, 77, 0, 7, 1), row(49, 11, 7, 1));
    }

    // "Sets of POINTS are numbers: bit k (of the value 1 shifted left by k) tells whether POINT k is in it."
    private static void setsOfSeven() {
        for (int k = 0; k < 7; k++) {
            MixedCells m = new MixedCells();
            for (int i = 0; i < 7; i++) {
                m.put(0, 12 - i, i * i % 12, i == k ? 0 : 50);
                m.put(1, 12 - i, i * i % 12, 20);
            }
            Due.is("the lowest is number " + k, m.low(0, 0, 0), 1 << k);
            int flat = cellAtFlat(m);
            Due.is("of the first, number " + k, m.cell(0, 1, flat, 3), 1 << k);
            Due.is("of the second, all seven", m.cell(0, 1, flat, 4), 127);
        }
    }

    private static int cellAtFlat(MixedCells m) {
        int many = m.cells(0, 1, 0);
        for (int i = 0; i < many; i++) {
            if (m.slope(0, 1, i, 0) == 100000 && m.slope(0, 1, i, 2) == 100000) {
                return i;
            }
        }
        return -1;
    }

    // "it has the LOW POINTS of A, and those of B": those that lie within the cell too.
    private static void notAllOfACellIsACorner() {
        MixedCells m = Build.one(0, 0, 0, 6, 0, 3, 12, 0, 6, 0, 12, 12, 4, 4, 6, 12, 12, 50, 5, 4, 7);
        Build.fill(m, 1, 0, 0, 0);
        // Along the first four, and the one within, the weights are x / 2 + y; the last two lie above.
        cell("three corners, one on a side, one within", m, 0, 1, 1, row(20, 144, 0, 31, 1), row(-1, 2, -1, 1));
    }

    // cells: "how many are of KIND k (100 and k, k being 2, 11, 12, 20, 21 or 22) .. OUTSIDE: what is none of these nine."
    private static void whatIsOneOfNine() {
        for (int what = -30; what <= 230; what++) {
            boolean isOne = false;
            for (int kind : KINDS) {
                isOne |= kind == what;
            }
            MixedCells m = Build.one(0, 0, 0, 1, 0, 0, 0, 1, 0);
            int due = what == 0 ? 1 : what == 1 ? 4 : what == 2 ? 2 : what == 122 ? 1 : 0;
            Due.is("cells(0, 0, " + what + ")", m.cells(0, 0, what), isOne ? due : -2);
            Due.is("of nothing: cells(0, 1, " + what + ")", m.cells(0, 1, what), isOne ? 0 : -2);
        }
        for (int what : new int[] {LEAST, -122, 256, 256 + 102, 65536, MOST}) {
            Due.is("cells(0, 0, " + what + ")", new MixedCells().cells(0, 0, what), -2);
        }
    }

    // cell and slope: "UNKNOWN: both; OUTSIDE."
    private static void whatEnds() {
        MixedCells m = Build.one(0, 0, 0, 1, 0, 0, 0, 1, 0);
        for (int i = -1; i <= 1; i++) {
            Due.is("cell what below, cell " + i, m.cell(0, 0, i, -1), -2);
            Due.is("cell what above, cell " + i, m.cell(0, 0, i, 5), -2);
            Due.is("slope what below, cell " + i, m.slope(0, 0, i, -1), -2);
            Due.is("slope what above, cell " + i, m.slope(0, 0, i, 4), -2);
            Due.is("cell what above, of nothing, cell " + i, m.cell(0, 3, i, 5), -2);
            Due.is("slope what above, of nothing, cell " + i, m.slope(3, 0, i, 4), -2);
        }
        Due.is("the last what of a cell", m.cell(0, 0, 0, 4), 7);
        Due.is("the last what of a slope", m.slope(0, 0, 0, 3), 1);
        Due.is("no such first body", m.cell(4, 0, 0, 0), -1);
        Due.is("no such second body", m.slope(0, -1, 0, 0), -1);
    }

    // low: "by a SLOPE of two whole numbers u, v (-1000 to 1000 each); 0, if it has no POINTS. UNKNOWN; OUTSIDE: both."
    private static void lowEnds() {
        MixedCells m = Build.one(0, 0, 50, 12, 0, 50, 0, 12, 50, 12, 12, 50, 6, 6, 0);
        for (int u : new int[] {-1001, -1000, 1000, 1001}) {
            for (int v : new int[] {-1001, -1000, 1000, 1001}) {
                boolean isOne = Math.abs(u) <= 1000 && Math.abs(v) <= 1000;
                int due = u > 0 ? (v > 0 ? 1 : 4) : (v > 0 ? 2 : 8);
                Due.is("low(0, " + u + ", " + v + ")", m.low(0, u, v), isOne ? due : -2);
                Due.is("of nothing: low(1, " + u + ", " + v + ")", m.low(1, u, v), isOne ? 0 : -2);
            }
            boolean isOne = Math.abs(u) <= 1000;
            Due.is("low(0, " + u + ", 0)", m.low(0, u, 0), isOne ? (u > 0 ? 5 : 10) : -2);
            Due.is("low(0, 0, " + u + ")", m.low(0, 0, u), isOne ? (u > 0 ? 3 : 12) : -2);
        }
        for (int far : new int[] {LEAST, MOST}) {
            Due.is("low(0, " + far + ", 0)", m.low(0, far, 0), -2);
            Due.is("low(0, 0, " + far + ")", m.low(0, 0, far), -2);
        }
        Due.is("one within, flat", m.low(0, 0, 0), 16);
        m.clear(0);
        Due.is("cleared", m.low(0, 0, 0), 0);
        m.put(0, 12, 12, 50);
        Due.is("one alone, however steep", m.low(0, 1000, 1000), 1);
    }

    // "those for which the WEIGHT, and u times x, and v times y, added, is least": all of them.
    private static void lowTies() {
        MixedCells m = Build.one(0, 0, 50, 1, 0, 0, 0, 1, 25);
        Due.is("one below", m.low(0, 49, 25), 2);
        Due.is("all three", m.low(0, 50, 25), 7);
        Due.is("one above", m.low(0, 51, 25), 5);
        Due.is("v one below", m.low(0, 50, 24), 4);
        Due.is("v one above", m.low(0, 50, 26), 3);
        MixedCells seven = new MixedCells();
        for (int k = 0; k < 7; k++) {
            seven.put(2, k, 12 - 2 * k, 8 * k);
        }
        Due.is("all seven at a slope", seven.low(2, 0, 4), 127);
        Due.is("the first of seven", seven.low(2, 1, 4), 1);
        Due.is("the last of seven", seven.low(2, -1, 4), 64);
    }
}
