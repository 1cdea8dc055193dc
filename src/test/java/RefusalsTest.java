/** Each refusal of each call, in its order; and what is refused changes nothing. */
public final class RefusalsTest {
    private static final int[] NO_BODIES = {-1, 4, 5, 100, Integer.MIN_VALUE, Integer.MAX_VALUE};
    private static final int LEAST = Integer.MIN_VALUE;
    private static final int MOST = Integer.MAX_VALUE;

    public static void main(String[] args) {
        unknownBodies();
        outsideOfBodies();
        outsideOfPairs();
        outsideOfImages();
        fullAndState();
        noneBeyondEnds();
        Due.end();
    }

    private static MixedCells filled() {
        MixedCells m = new MixedCells();
        Build.fill(m, 0, 0, 0, 1, 4, 0, 2, 0, 4, 3);
        Build.fill(m, 1, 0, 0, 1, 1, 0, 2, 2, 0, 3, 3, 0, 4, 4, 0, 5, 5, 0, 6, 6, 1, 7);
        m.image(0);
        m.put(2, 3, 3, 3);
        return m;
    }

    private static void refused(MixedCells m, String call, String before, int got, int want) {
        Due.is(call, got, want);
        Due.holds(call + " changes nothing", Build.state(m).equals(before));
    }

    /* UNKNOWN comes first, whatever else is wrong. */
    private static void unknownBodies() {
        for (int no : NO_BODIES) {
            MixedCells m = filled();
            String s = Build.state(m);
            refused(m, "put(" + no + ")", s, m.put(no, 1, 1, 1), -1);
            refused(m, "put(" + no + ", all wrong)", s, m.put(no, -1, 13, 51), -1);
            refused(m, "take(" + no + ")", s, m.take(no, 0), -1);
            refused(m, "take(" + no + ", wrong)", s, m.take(no, -1), -1);
            refused(m, "clear(" + no + ")", s, m.clear(no), -1);
            refused(m, "point(" + no + ")", s, m.point(no, 0, 0), -1);
            refused(m, "point(" + no + ", wrong)", s, m.point(no, 99, 9), -1);
            refused(m, "hull(" + no + ")", s, m.hull(no, 0), -1);
            refused(m, "hull(" + no + ", wrong)", s, m.hull(no, 5), -1);
            refused(m, "corner(" + no + ")", s, m.corner(no, 0), -1);
            refused(m, "corner(" + no + ", none)", s, m.corner(no, -1), -1);
            refused(m, "low(" + no + ")", s, m.low(no, 0, 0), -1);
            refused(m, "low(" + no + ", wrong)", s, m.low(no, 1001, 0), -1);
            refused(m, "fan(" + no + ")", s, m.fan(no, 0), -1);
            refused(m, "fan(" + no + ", wrong)", s, m.fan(no, 3), -1);
            unknownPair(no, 0);
            unknownPair(0, no);
            unknownPair(no, no);
        }
    }

    private static void unknownPair(int a, int b) {
        MixedCells m = filled();
        String s = Build.state(m);
        String pair = "(" + a + ", " + b + ")";
        refused(m, "sum" + pair, s, m.sum(a, b, 0), -1);
        refused(m, "sum, wrong" + pair, s, m.sum(a, b, 4), -1);
        refused(m, "sumCorner" + pair, s, m.sumCorner(a, b, 0, 0), -1);
        refused(m, "sumCorner, wrong" + pair, s, m.sumCorner(a, b, -1, 2), -1);
        refused(m, "cells" + pair, s, m.cells(a, b, 0), -1);
        refused(m, "cells, wrong" + pair, s, m.cells(a, b, 3), -1);
        refused(m, "cell" + pair, s, m.cell(a, b, 0, 0), -1);
        refused(m, "cell, wrong" + pair, s, m.cell(a, b, -1, 5), -1);
        refused(m, "slope" + pair, s, m.slope(a, b, 0, 0), -1);
        refused(m, "slope, wrong" + pair, s, m.slope(a, b, -1, 4), -1);
        refused(m, "roots" + pair, s, m.roots(a, b, 2), -1);
        refused(m, "roots, wrong" + pair, s, m.roots(a, b, 4), -1);
    }

    private static void outsideOfBodies() {
        MixedCells m = filled();
        String s = Build.state(m);
        for (int no : new int[] {-1, 13, LEAST, MOST}) {
            refused(m, "put x " + no, s, m.put(0, no, 1, 1), -2);
            refused(m, "put y " + no, s, m.put(0, 1, no, 1), -2);
            refused(m, "put x into a full body " + no, s, m.put(1, no, 1, 1), -2);
        }
        for (int no : new int[] {-1, 51, LEAST, MOST}) {
            refused(m, "put weight " + no, s, m.put(0, 1, 1, no), -2);
            refused(m, "put weight of a point that is there " + no, s, m.put(0, 0, 0, no), -2);
            refused(m, "put weight into a full body " + no, s, m.put(1, 9, 9, no), -2);
        }
        for (int no : new int[] {-1, 3, 7, LEAST, MOST}) {
            refused(m, "take " + no, s, m.take(0, no), -2);
            refused(m, "take of no points " + no, s, m.take(3, no), -2);
        }
        for (int no : new int[] {-1, 5, LEAST, MOST}) {
            refused(m, "hull what " + no, s, m.hull(0, no), -2);
            refused(m, "hull of no points, what " + no, s, m.hull(3, no), -2);
            refused(m, "cell what " + no, s, m.cell(0, 1, 0, no), -2);
            refused(m, "cell that is none, what " + no, s, m.cell(0, 3, 0, no), -2);
        }
        for (int no : new int[] {-1, 3, LEAST, MOST}) {
            refused(m, "point what " + no, s, m.point(0, 0, no), -2);
            refused(m, "point that is none, what " + no, s, m.point(0, 9, no), -2);
            refused(m, "fan what " + no, s, m.fan(0, no), -2);
        }
        for (int no : new int[] {-1001, 1001, LEAST, MOST}) {
            refused(m, "low u " + no, s, m.low(0, no, 0), -2);
            refused(m, "low v " + no, s, m.low(0, 0, no), -2);
            refused(m, "low of no points " + no, s, m.low(3, 0, no), -2);
        }
    }

    private static void outsideOfPairs() {
        MixedCells m = filled();
        String s = Build.state(m);
        for (int no : new int[] {-1, 4, LEAST, MOST}) {
            refused(m, "sum what " + no, s, m.sum(0, 1, no), -2);
            refused(m, "sum of no points, what " + no, s, m.sum(0, 3, no), -2);
            refused(m, "slope what " + no, s, m.slope(0, 1, 0, no), -2);
            refused(m, "slope that is none, what " + no, s, m.slope(0, 3, -1, no), -2);
        }
        for (int no : new int[] {-1, 2, LEAST, MOST}) {
            refused(m, "sumCorner what " + no, s, m.sumCorner(0, 1, 0, no), -2);
            refused(m, "sumCorner that is none, what " + no, s, m.sumCorner(0, 3, -1, no), -2);
        }
        for (int no = -130; no <= 260; no++) {
            boolean isFine = no >= 0 && no <= 2 || no == 102 || no == 111 || no == 112 || no >= 120 && no <= 122;
            if (!isFine) {
                Due.is("cells what " + no, m.cells(0, 1, no), -2);
            }
        }
        refused(m, "cells what, the least", s, m.cells(0, 1, LEAST), -2);
        refused(m, "cells what, the most", s, m.cells(0, 3, MOST), -2);
        for (int p : new int[] {-13, -2, 0, 1, 4, 6, 8, 9, 10, 12, 14, 15, 17, 19, LEAST, MOST}) {
            refused(m, "roots p " + p, s, m.roots(0, 1, p), -2);
            refused(m, "roots of no points, p " + p, s, m.roots(3, 3, p), -2);
        }
    }

    private static void outsideOfImages() {
        MixedCells m = filled();
        String s = Build.state(m);
        for (int no : new int[] {-1, 2, 3, 31, 32, LEAST, MOST}) {
            refused(m, "image " + no, s, m.image(no), -2);
            refused(m, "restore " + no, s, m.restore(no), -2);
        }
        for (int no : new int[] {-1, 7, 8, LEAST, MOST}) {
            refused(m, "count " + no, s, m.count(no), -2);
        }
    }

    private static void fullAndState() {
        MixedCells m = filled();
        String s = Build.state(m);
        refused(m, "put into a full body", s, m.put(1, 9, 9, 9), -4);
        refused(m, "restore of nothing", s, m.restore(1), -3);
        Due.is("the other image is as it was", m.restore(0), 1);
        Due.is("its bodies too", m.count(4), 10);
    }

    private static void noneBeyondEnds() {
        MixedCells m = filled();
        String s = Build.state(m);
        for (int no : new int[] {-1, -2, 93, 94, 512, LEAST, MOST}) {
            refused(m, "point " + no, s, m.point(0, no, 0), -6);
            refused(m, "corner " + no, s, m.corner(0, no), -6);
            refused(m, "sumCorner " + no, s, m.sumCorner(0, 1, no, 0), -6);
            refused(m, "cell " + no, s, m.cell(0, 1, no, 0), -6);
            refused(m, "slope " + no, s, m.slope(0, 1, no, 0), -6);
        }
    }
}
