/**
 * The edges that promises 8 and 9 and part 2 of the terms name: sum, sumCorner.
 * Ahead of each test stands the sentence that it is for.
 */
public final class EdgesOfSumsTest {
    public static void main(String[] args) {
        eachOnce();
        ofOneWithItself();
        largest();
        mostCorners();
        lessThanSpanTwo();
        mixedWithoutPoints();
        mixedOfOnePoint();
        firstSumCorner();
        cornerEnds();
        whatEnds();
        Due.end();
    }

    private static void sums(String name, MixedCells m, int a, int b, int... due) {
        for (int what = 0; what < due.length; what++) {
            Due.is(name + ": sum(" + a + ", " + b + ", " + what + ")", m.sum(a, b, what), due[what]);
            Due.is(name + ": sum(" + b + ", " + a + ", " + what + ")", m.sum(b, a, what), due[what]);
        }
    }

    private static void corners(String name, MixedCells m, int a, int b, int... places) {
        Due.is(name + ": how many", m.sum(a, b, 2), places.length / 2);
        for (int i = 0; 2 * i < places.length; i++) {
            Due.is(name + ": x of corner " + i, m.sumCorner(a, b, i, 0), places[2 * i]);
            Due.is(name + ": y of corner " + i, m.sumCorner(a, b, i, 1), places[2 * i + 1]);
        }
        for (int what = 0; what < 2; what++) {
            for (int i : new int[] {-1, -2, places.length / 2, 49, Integer.MIN_VALUE, Integer.MAX_VALUE}) {
                Due.is(name + ": sumCorner(.., " + i + ", " + what + ")", m.sumCorner(a, b, i, what), -6);
            }
        }
    }

    /** n points from (0, 0) on, each (x, y) further than the one before. */
    private static void line(MixedCells m, int body, int x, int y, int n) {
        for (int k = 0; k < n; k++) {
            m.put(body, k * x, k * y, 50 - k);
        }
    }

    // "all (x, y) that are a POINT of A and a POINT of B, added, coordinate by coordinate, each once."
    private static void eachOnce() {
        MixedCells m = new MixedCells();
        line(m, 0, 1, 0, 7);
        line(m, 1, 0, 1, 7);
        line(m, 2, 1, 0, 7);
        line(m, 3, 2, 0, 7);
        sums("no two alike: 49", m, 0, 1, 49, 72, 4, 72);
        sums("as few as may be of seven and seven: 13", m, 0, 2, 13, 0, 2, 0);
        sums("of two lines one way", m, 0, 3, 19, 0, 2, 0);
        MixedCells one = Build.one(12, 12, 50);
        sums("of one point", one, 0, 0, 1, 0, 1, 0);
    }

    // "The SUM of two BODIES A and B (or of one with itself)"
    private static void ofOneWithItself() {
        MixedCells m = Build.one(0, 0, 0, 1, 0, 0);
        // The sum of the two unlike points counts, and counts once.
        sums("two points with themselves", m, 0, 0, 3, 0, 2, 0);
        MixedCells seven = new MixedCells();
        Build.fillFlat(seven, 3, 0, Build.SEVEN_CORNERS);
        Due.is("seven corners with themselves: the area", seven.sum(3, 3, 1), 832);
        Due.is("seven corners with themselves: the corners", seven.sum(3, 3, 2), 7);
        Due.is("seven corners with themselves: mixed", seven.sum(3, 3, 3), 416);
        MixedCells empty = new MixedCells();
        sums("nothing with itself", empty, 2, 2, 0, 0, 0, 0);
    }

    // "x and y of 0 to 12": the sums go up to 24.
    private static void largest() {
        MixedCells m = Build.one(0, 0, 0, 12, 0, 0, 0, 12, 0, 12, 12, 0);
        Build.fill(m, 1, 12, 12, 0);
        sums("the plane with itself", m, 0, 0, 9, 1152, 4, 576);
        corners("the plane with itself", m, 0, 0, 0, 0, 24, 0, 24, 24, 0, 24);
        sums("the plane and its last place", m, 0, 1, 4, 288, 4, 0);
        corners("the last place with itself", m, 1, 1, 24, 24);
    }

    // sum: "how many CORNERS (2)": fourteen, where no two sides of seven and seven go one way.
    private static void mostCorners() {
        MixedCells m = new MixedCells();
        Build.fillFlat(m, 0, 3, Build.SEVEN_CORNERS);
        Build.fillFlat(m, 1, 4, Build.OTHER_SEVEN_CORNERS);
        Due.is("the other one's corners", m.hull(1, 1), 7);
        int[] due = {5, 0, 9, 0, 13, 1, 17, 5, 19, 8, 19, 12, 18, 15, 14, 19, 11, 20, 7, 20, 4, 18, 0, 12, 0, 9, 1, 6};
        corners("fourteen corners", m, 0, 1, due);
        corners("fourteen corners, the other way round", m, 1, 0, due);
    }

    // "(a whole number; 0, if all lie on one straight line)", of sums.
    private static void lessThanSpanTwo() {
        MixedCells m = new MixedCells();
        line(m, 0, 2, 1, 7);
        line(m, 1, 2, 1, 3);
        Build.fill(m, 2, 12, 0, 0);
        line(m, 3, 2, 2, 2);
        sums("two lines one way", m, 0, 1, 9, 0, 2, 0);
        corners("two lines one way", m, 0, 1, 0, 0, 16, 8);
        sums("a line and one point", m, 0, 2, 7, 0, 2, 0);
        corners("a line and one point", m, 2, 0, 12, 0, 24, 6);
        sums("one line with itself", m, 0, 0, 13, 0, 2, 0);
        sums("two lines not one way", m, 0, 3, 14, 24, 4, 24);
    }

    // "0, if A or B has no POINTS.": though the other one has an area.
    private static void mixedWithoutPoints() {
        MixedCells m = Build.one(0, 0, 0, 12, 0, 0, 0, 12, 0, 12, 12, 0);
        sums("the plane and nothing", m, 0, 1, 0, 0, 0, 0);
        corners("the plane and nothing", m, 0, 1);
        corners("nothing and the plane", m, 1, 0);
        corners("nothing and nothing", m, 2, 3);
        m.put(1, 0, 0, 0);
        sums("the plane and one point", m, 0, 1, 4, 288, 4, 0);
        m.take(1, 0);
        sums("the plane and nothing, once more", m, 0, 1, 0, 0, 0, 0);
        m.clear(0);
        sums("nothing and nothing", m, 0, 1, 0, 0, 0, 0);
    }

    // "MIXED of A and B: the AREA of the HULL of the SUM, less those of the HULLS of A and of B (all as told: twice)"
    private static void mixedOfOnePoint() {
        MixedCells m = Build.one(0, 0, 0, 1, 0, 0);
        Build.fill(m, 1, 12, 12, 0, 12, 11, 0);
        Build.fill(m, 2, 0, 0, 0, 1, 0, 0, 0, 1, 0);
        sums("the least that is more than 0", m, 0, 1, 4, 2, 4, 2);
        sums("a side of it", m, 0, 2, 5, 3, 4, 2);
        sums("a half with itself", m, 2, 2, 6, 4, 3, 2);
    }

    // "in their order": the first one of the least y, of such of the least x.
    private static void firstSumCorner() {
        MixedCells m = Build.one(12, 5, 0, 3, 5, 0, 7, 12, 0);
        Build.fill(m, 1, 9, 2, 0, 1, 2, 0, 5, 0, 0);
        corners("one lowest and two lowest", m, 0, 1, 8, 5, 17, 5, 21, 7, 16, 14, 8, 14, 4, 7);
        corners("two lowest with themselves", m, 0, 0, 6, 10, 24, 10, 14, 24);
    }

    // sumCorner: "NONE: there is none such (i below 0, too)."
    private static void cornerEnds() {
        for (int n = 0; n <= 7; n++) {
            MixedCells m = new MixedCells();
            int[] due = new int[2 * n];
            for (int i = 0; i < 2 * n; i++) {
                due[i] = 2 * Build.SEVEN_CORNERS[i];
            }
            for (int k = 0; k < n; k++) {
                m.put(2, Build.SEVEN_CORNERS[2 * k], Build.SEVEN_CORNERS[2 * k + 1], 0);
            }
            corners("the first " + n + " with themselves", m, 2, 2, due);
        }
    }

    // "UNKNOWN: both; OUTSIDE" and "OUTSIDE: what."
    private static void whatEnds() {
        for (int b = 0; b < 2; b++) {
            MixedCells m = Build.one(1, 2, 0);
            Due.is("sum what below, " + b, m.sum(0, b, -1), -2);
            Due.is("sum what above, " + b, m.sum(0, b, 4), -2);
            Due.is("sumCorner what below, " + b, m.sumCorner(0, b, 0, -1), -2);
            Due.is("sumCorner what above, " + b, m.sumCorner(0, b, 0, 2), -2);
            Due.is("sumCorner what above, and no such corner, " + b, m.sumCorner(0, b, -1, 2), -2);
        }
        MixedCells m = Build.one(1, 2, 0);
        Due.is("the last body of both", m.sum(3, 3, 0), 0);
        Due.is("the first is one beyond the last", m.sum(4, 3, 0), -1);
        Due.is("the second is one beyond the last", m.sum(3, 4, 0), -1);
        Due.is("the first is one below", m.sumCorner(-1, 0, 0, 0), -1);
        Due.is("the second is one below", m.sumCorner(0, -1, 0, 0), -1);
    }
}
