/** Promises 1 to 7: a new object, put, take, clear, point, hull, corner. */
public final class BodiesTest {
    public static void main(String[] args) {
        newObject();
        put();
        take();
        clear();
        point();
        hullOfSpanTwo();
        hullOfLessSpan();
        corner();
        Due.end();
    }

    private static void newObject() {
        MixedCells m = new MixedCells();
        for (int body = 0; body < 4; body++) {
            Due.is("new: count(" + body + ")", m.count(body), 0);
            Due.is("new: point(" + body + ", 0, 0)", m.point(body, 0, 0), -6);
        }
        Due.is("new: count(6)", m.count(6), 0);
        Due.is("new: restore(0)", m.restore(0), -3);
        Due.is("new: restore(1)", m.restore(1), -3);
        MixedCells other = new MixedCells();
        m.put(0, 1, 1, 1);
        m.image(0);
        Due.is("another object: count(4)", other.count(4), 0);
        Due.is("another object: count(6)", other.count(6), 0);
    }

    private static void put() {
        MixedCells m = new MixedCells();
        Due.is("put(0, 0, 0, 0)", m.put(0, 0, 0, 0), 0);
        Due.is("put(0, 12, 12, 50)", m.put(0, 12, 12, 50), 1);
        Due.is("put(0, 0, 12, 7)", m.put(0, 0, 12, 7), 2);
        Due.is("put(0, 12, 12, 3) once more", m.put(0, 12, 12, 3), 1);
        Due.is("its new weight", m.point(0, 1, 2), 3);
        Due.is("count(0)", m.count(0), 3);
        for (int k = 3; k < 7; k++) {
            Due.is("put of point " + k, m.put(0, k, 1, 0), k);
        }
        Due.is("put of an eighth point", m.put(0, 9, 9, 0), -4);
        Due.is("put of an eighth point by another y", m.put(0, 3, 2, 0), -4);
        Due.is("put of a weight where it is full", m.put(0, 6, 1, 44), 6);
        Due.is("that weight", m.point(0, 6, 2), 44);
        Due.is("count(0), full", m.count(0), 7);
        Due.is("a full body leaves room in another one", m.put(3, 9, 9, 0), 0);
    }

    private static void take() {
        MixedCells m = new MixedCells();
        Build.fill(m, 2, 1, 2, 3, 4, 5, 6, 7, 8, 9, 10, 11, 12);
        Due.is("take(2, 4)", m.take(2, 4), -2);
        Due.is("take(2, -1)", m.take(2, -1), -2);
        Due.is("take(2, 1)", m.take(2, 1), 3);
        Due.holds("those behind it are one less", Build.state(m).equals("||1,2,3 7,8,9 10,11,12 ||0"));
        Due.is("take(2, 2)", m.take(2, 2), 2);
        Due.is("take(2, 2)", m.take(2, 2), -2);
        Due.is("take(2, 0)", m.take(2, 0), 1);
        Due.is("point(2, 0, 0)", m.point(2, 0, 0), 7);
        Due.is("take(2, 0)", m.take(2, 0), 0);
        Due.is("take(2, 0)", m.take(2, 0), -2);
        Due.is("put after all went", m.put(2, 7, 8, 1), 0);
    }

    private static void clear() {
        MixedCells m = new MixedCells();
        Build.fill(m, 0, 1, 1, 1, 2, 2, 2);
        Build.fill(m, 1, 3, 3, 3);
        Due.is("clear(0)", m.clear(0), 2);
        Due.is("clear(0) once more", m.clear(0), 0);
        Due.holds("the other bodies stay", Build.state(m).equals("|3,3,3 |||0"));
        Due.is("put after clear", m.put(0, 2, 2, 5), 0);
    }

    private static void point() {
        MixedCells m = new MixedCells();
        Build.fill(m, 3, 12, 0, 50, 1, 2, 3);
        Due.is("point(3, 0, 0)", m.point(3, 0, 0), 12);
        Due.is("point(3, 0, 1)", m.point(3, 0, 1), 0);
        Due.is("point(3, 0, 2)", m.point(3, 0, 2), 50);
        Due.is("point(3, 1, 1)", m.point(3, 1, 1), 2);
        Due.is("point(3, 2, 1)", m.point(3, 2, 1), -6);
        Due.is("point(3, -1, 1)", m.point(3, -1, 1), -6);
        Due.is("point(3, 2, 3): the refusal comes first", m.point(3, 2, 3), -2);
    }

    private static void hull(MixedCells m, String name, int... due) {
        for (int what = 0; what < due.length; what++) {
            Due.is(name + ": hull(0, " + what + ")", m.hull(0, what), due[what]);
        }
    }

    private static void hullOfSpanTwo() {
        MixedCells m = new MixedCells();
        Build.fill(m, 0, 12, 12, 0, 0, 0, 0, 6, 6, 0, 0, 12, 0, 12, 0, 0, 6, 0, 0, 12, 6, 0);
        hull(m, "a square, with points on its rim and in it", 288, 4, 169, 48, 2);
        m.clear(0);
        Build.fill(m, 0, 0, 0, 1, 12, 1, 1, 1, 0, 1);
        hull(m, "a thin triangle", 1, 3, 3, 3, 2);
        m.clear(0);
        Build.fill(m, 0, 3, 0, 0, 6, 3, 0, 3, 6, 0, 0, 3, 0);
        hull(m, "a square on its corner", 36, 4, 25, 12, 2);
    }

    private static void hullOfLessSpan() {
        MixedCells m = new MixedCells();
        hull(m, "no points", 0, 0, 0, 0, -6);
        m.put(0, 4, 9, 1);
        hull(m, "one point", 0, 1, 1, 1, 0);
        m.put(0, 12, 5, 1);
        hull(m, "two points", 0, 2, 5, 5, 1);
        m.put(0, 6, 8, 1);
        m.put(0, 8, 7, 1);
        hull(m, "four points on one line", 0, 2, 5, 5, 1);
        m.put(0, 8, 8, 1);
        hull(m, "one beside it", 8, 3, 8, 6, 2);
    }

    private static void corners(MixedCells m, String name, int... due) {
        Due.is(name + ": corner(0, -1)", m.corner(0, -1), -6);
        for (int i = 0; i < due.length; i++) {
            Due.is(name + ": corner(0, " + i + ")", m.corner(0, i), due[i]);
        }
        Due.is(name + ": the one behind the last", m.corner(0, due.length), -6);
        Due.is(name + ": as many as told", m.hull(0, 1), due.length);
    }

    private static void corner() {
        MixedCells m = new MixedCells();
        corners(m, "no points");
        m.put(0, 3, 3, 0);
        corners(m, "one point", 0);
        m.put(0, 1, 3, 0);
        corners(m, "of one y the least x is first", 1, 0);
        m.put(0, 2, 3, 0);
        corners(m, "between two", 1, 0);
        m.put(0, 0, 5, 0);
        corners(m, "round to the left", 1, 0, 3);
        m.put(0, 9, 4, 0);
        corners(m, "round to the left, four", 1, 0, 4, 3);
        m.put(0, 9, 1, 0);
        corners(m, "the least y is first, whatever its x", 5, 4, 3, 1);
        m.clear(0);
        Build.fill(m, 0, 6, 6, 0, 0, 6, 0, 6, 0, 0, 0, 0, 0, 3, 0, 0, 6, 3, 0, 3, 3, 0);
        corners(m, "points on the rim are none", 3, 2, 0, 1);
    }
}
