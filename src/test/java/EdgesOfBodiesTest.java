/**
 * The edges that promises 1 to 7 and part 1 of the terms name: a new object, put, take, clear, point, hull, corner.
 * Ahead of each test stands the sentence that it is for.
 */
public final class EdgesOfBodiesTest {
    private static final int LEAST = Integer.MIN_VALUE;
    private static final int MOST = Integer.MAX_VALUE;

    public static void main(String[] args) {
        newObject();
        bodiesAreZeroToThree();
        coordinates();
        weights();
        upToSeven();
        sameWhereItIsFull();
        noTwoTheSame();
        takeEach();
        takeUntilNoneIsLeft();
        clearEach();
        pointEnds();
        areas();
        areaOfOneLine();
        manyCorners();
        wholePointsOfOneLine();
        wholePointsAndRim();
        spans();
        hullWithoutPoints();
        cornersAreNotInTheHullOfTheOthers();
        cornersInEachOrder();
        firstCorner();
        cornerEnds();
        Due.end();
    }

    /** n points that are the first n of seven corners, the weight of number k being k + 1. */
    private static MixedCells corners(int body, int n) {
        MixedCells m = new MixedCells();
        for (int k = 0; k < n; k++) {
            m.put(body, Build.SEVEN_CORNERS[2 * k], Build.SEVEN_CORNERS[2 * k + 1], k + 1);
        }
        return m;
    }

    private static void hull(String name, MixedCells m, int... due) {
        for (int what = 0; what < due.length; what++) {
            Due.is(name + ": hull(0, " + what + ")", m.hull(0, what), due[what]);
        }
    }

    // "All BODIES are without POINTS; no IMAGE is kept."
    private static void newObject() {
        for (int body = 0; body < 4; body++) {
            MixedCells m = new MixedCells();
            String name = "new, body " + body;
            Due.is(name + ": count", m.count(body), 0);
            Due.is(name + ": point", m.point(body, 0, 0), -6);
            Due.is(name + ": span", m.hull(body, 4), -6);
            Due.is(name + ": corner", m.corner(body, 0), -6);
            Due.is(name + ": take", m.take(body, 0), -2);
            Due.is(name + ": clear", m.clear(body), 0);
            Due.is(name + ": the first point", m.put(body, 0, 0, 0), 0);
        }
        for (int k = 0; k < 2; k++) {
            MixedCells m = new MixedCells();
            Due.is("new: restore(" + k + ")", m.restore(k), -3);
            Due.is("new: count(6)", m.count(6), 0);
            Due.is("new: count(5)", m.count(5), 0);
            Due.is("new: count(4)", m.count(4), 0);
        }
        MixedCells used = corners(0, 7);
        used.image(0);
        used.image(1);
        Due.is("one that is new beside a full one: count(4)", new MixedCells().count(4), 0);
        Due.is("one that is new beside one with images: count(6)", new MixedCells().count(6), 0);
    }

    // "BODIES are 0 to 3."
    private static void bodiesAreZeroToThree() {
        for (int body = -9; body <= 12; body++) {
            MixedCells m = new MixedCells();
            boolean isOne = body >= 0 && body <= 3;
            Due.is("put into body " + body, m.put(body, 5, 6, 7), isOne ? 0 : -1);
            Due.is("how many points there are by put into " + body, m.count(4), isOne ? 1 : 0);
            Due.is("which bodies have any by put into " + body, m.count(5), isOne ? 1 << body : 0);
        }
        for (int body : new int[] {LEAST, LEAST + 1, -256, 32, 256, 65536, 1 << 30, MOST}) {
            Due.is("put into body " + body, new MixedCells().put(body, 5, 6, 7), -1);
            Due.is("clear of body " + body, new MixedCells().clear(body), -1);
        }
    }

    // "POINTS (x, y), x and y of 0 to 12"; put: "OUTSIDE: x, y, the WEIGHT".
    private static void coordinates() {
        for (int x = -2; x <= 14; x++) {
            for (int y = -2; y <= 14; y++) {
                boolean isOne = x >= 0 && x <= 12 && y >= 0 && y <= 12;
                MixedCells m = new MixedCells();
                String name = "put(2, " + x + ", " + y + ", 9)";
                Due.is(name, m.put(2, x, y, 9), isOne ? 0 : -2);
                Due.is(name + ": x", m.point(2, 0, 0), isOne ? x : -6);
                Due.is(name + ": y", m.point(2, 0, 1), isOne ? y : -6);
                Due.is(name + ": weight", m.point(2, 0, 2), isOne ? 9 : -6);
            }
        }
        for (int far : new int[] {LEAST, -256, 256, 65536, MOST}) {
            Due.is("put of x " + far, new MixedCells().put(0, far, 0, 0), -2);
            Due.is("put of y " + far, new MixedCells().put(0, 0, far, 0), -2);
        }
    }

    // "each has a WEIGHT, 0 to 50."
    private static void weights() {
        for (int weight = -3; weight <= 53; weight++) {
            boolean isOne = weight >= 0 && weight <= 50;
            MixedCells m = Build.one(3, 4, 17);
            Due.is("a new point of weight " + weight, m.put(1, 3, 4, weight), isOne ? 0 : -2);
            Due.is("its weight " + weight, m.point(1, 0, 2), isOne ? weight : -6);
            Due.is("the weight of one that is there, " + weight, m.put(0, 3, 4, weight), isOne ? 0 : -2);
            Due.is("the weight it has by " + weight, m.point(0, 0, 2), isOne ? weight : 17);
        }
        for (int far : new int[] {LEAST, -256, 256, 65536, MOST}) {
            Due.is("put of weight " + far, new MixedCells().put(0, 0, 0, far), -2);
        }
    }

    // "A BODY has up to 7 POINTS"; put: "FULL: it has not, and has 7."
    private static void upToSeven() {
        for (int body = 0; body < 4; body++) {
            MixedCells m = new MixedCells();
            for (int k = 0; k < 7; k++) {
                Due.is("body " + body + ": the point put as number " + k, m.put(body, k, 12 - k, k), k);
                Due.is("body " + body + ": how many after it", m.count(body), k + 1);
            }
            Due.is("body " + body + ": the eighth", m.put(body, 12, 12, 50), -4);
            Due.is("body " + body + ": the eighth, of an x and a y that are there", m.put(body, 0, 11, 0), -4);
            Due.is("body " + body + ": how many when it is full", m.count(body), 7);
            Due.is("body " + body + ": no number 7", m.point(body, 7, 0), -6);
            Due.is("body " + body + ": another one has room", m.put(3 - body, 12, 12, 50), 0);
            Due.is("body " + body + ": one goes", m.take(body, 0), 6);
            Due.is("body " + body + ": there is room for one", m.put(body, 12, 12, 50), 6);
            Due.is("body " + body + ": and for no more", m.put(body, 11, 11, 50), -4);
            Due.is("body " + body + ": not for the one that went", m.put(body, 0, 12, 0), -4);
        }
    }

    // put: "if it has that POINT already it has that WEIGHT from now on: the number of the POINT."
    private static void sameWhereItIsFull() {
        for (int n = 1; n <= 7; n++) {
            for (int k = 0; k < n; k++) {
                MixedCells m = corners(1, n);
                int x = m.point(1, k, 0);
                int y = m.point(1, k, 1);
                String name = "of " + n + ", number " + k + " once more";
                Due.is(name, m.put(1, x, y, 50), k);
                Due.is(name + ": how many", m.count(1), n);
                for (int i = 0; i < n; i++) {
                    Due.is(name + ": weight of " + i, m.point(1, i, 2), i == k ? 50 : i + 1);
                    Due.is(name + ": x of " + i, m.point(1, i, 0), Build.SEVEN_CORNERS[2 * i]);
                    Due.is(name + ": y of " + i, m.point(1, i, 1), Build.SEVEN_CORNERS[2 * i + 1]);
                }
                Due.is(name + ", of weight 0", m.put(1, x, y, 0), k);
                Due.is(name + ": its weight is 0", m.point(1, k, 2), 0);
            }
        }
    }

    // "no two the same"
    private static void noTwoTheSame() {
        MixedCells m = Build.one(3, 5, 1);
        Due.is("x and y the other way round is another one", m.put(0, 5, 3, 1), 1);
        Due.is("the same x is another one", m.put(0, 3, 3, 1), 2);
        Due.is("the same y is another one", m.put(0, 5, 5, 1), 3);
        Due.is("the same with another weight is no other one", m.put(0, 3, 5, 2), 0);
        Due.is("so there are four", m.count(0), 4);
        Due.is("the same in another body is one of its own", m.put(1, 3, 5, 9), 0);
        Due.is("and leaves the weight of the first", m.point(0, 0, 2), 2);
    }

    // "numbered from 0 on as they came (when one goes, those behind it are one less)"; take: "how many it has."
    private static void takeEach() {
        for (int n = 1; n <= 7; n++) {
            for (int k = 0; k < n; k++) {
                MixedCells m = corners(3, n);
                String name = "take number " + k + " of " + n;
                Due.is(name, m.take(3, k), n - 1);
                for (int i = 0; i < n - 1; i++) {
                    int was = i < k ? i : i + 1;
                    Due.is(name + ": x of " + i, m.point(3, i, 0), Build.SEVEN_CORNERS[2 * was]);
                    Due.is(name + ": y of " + i, m.point(3, i, 1), Build.SEVEN_CORNERS[2 * was + 1]);
                    Due.is(name + ": weight of " + i, m.point(3, i, 2), was + 1);
                }
                Due.is(name + ": the last number is gone", m.point(3, n - 1, 0), -6);
                Due.is(name + ": it can't be taken", m.take(3, n - 1), -2);
                Due.is(name + ": the next one that comes is the last", m.put(3, 9, 5, 33), n - 1);
                Due.is(name + ": with its own weight", m.point(3, n - 1, 2), 33);
            }
        }
    }

    // take: "OUTSIDE: there is no such POINT."
    private static void takeUntilNoneIsLeft() {
        for (int n = 0; n <= 7; n++) {
            MixedCells m = corners(0, n);
            for (int k : new int[] {-1, n, n + 1, 7, 32, LEAST, MOST}) {
                Due.is("take number " + k + " of " + n, m.take(0, k), -2);
            }
            for (int left = n - 1; left >= 0; left--) {
                Due.is("take the last of " + (left + 1), m.take(0, left), left);
            }
            Due.is("take of a body that had " + n, m.take(0, 0), -2);
            Due.is("its span", m.hull(0, 4), -6);
            Due.is("no body has any", m.count(5), 0);
        }
    }

    // clear: "A BODY is without POINTS: how many it had."
    private static void clearEach() {
        for (int n = 0; n <= 7; n++) {
            MixedCells m = corners(2, n);
            Build.fill(m, 1, 4, 0, 44);
            Due.is("clear of " + n, m.clear(2), n);
            Due.is("clear once more", m.clear(2), 0);
            Due.is("no number 0 is left", m.point(2, 0, 0), -6);
            Due.is("nothing can be taken", m.take(2, 0), -2);
            Due.is("the other body stays", m.point(1, 0, 2), 44);
            Due.is("the last one that was there comes as a new one",
                    m.put(2, Build.SEVEN_CORNERS[12], Build.SEVEN_CORNERS[13], 5), 0);
            Due.is("and is the only one", m.count(2), 1);
        }
    }

    // point: "NONE: there is no such POINT (k below 0, too). UNKNOWN; OUTSIDE: what."
    private static void pointEnds() {
        for (int n = 0; n <= 7; n++) {
            MixedCells m = corners(1, n);
            for (int what = 0; what < 3; what++) {
                for (int k : new int[] {-1, -2, -7, n, n + 1, 7, 8, 32, LEAST, MOST}) {
                    Due.is("of " + n + ": point(1, " + k + ", " + what + ")", m.point(1, k, what), -6);
                }
            }
            if (n > 0) {
                Due.is("x of the last of " + n, m.point(1, n - 1, 0), Build.SEVEN_CORNERS[2 * n - 2]);
                Due.is("y of the last of " + n, m.point(1, n - 1, 1), Build.SEVEN_CORNERS[2 * n - 1]);
                Due.is("weight of the last of " + n, m.point(1, n - 1, 2), n);
            }
            Due.is("of " + n + ": what below", m.point(1, 0, -1), -2);
            Due.is("of " + n + ": what above", m.point(1, 0, 3), -2);
        }
    }

    // "Its AREA is told twice as much as it is (a whole number ..)": the least and the most there are.
    private static void areas() {
        hull("half a square", Build.one(12, 12, 0, 11, 12, 0, 12, 11, 0), 1, 3, 3, 3, 2);
        hull("the thinnest one", Build.one(0, 0, 0, 12, 11, 0, 11, 10, 0), 1, 3, 3, 3, 2);
        hull("the whole plane", Build.one(0, 0, 0, 12, 12, 0, 12, 0, 0, 0, 12, 0), 288, 4, 169, 48, 2);
        hull("half the plane", Build.one(0, 0, 0, 12, 12, 0, 0, 12, 0), 144, 3, 91, 36, 2);
        MixedCells m = new MixedCells();
        Build.fillFlat(m, 0, 50, Build.SEVEN_CORNERS);
        hull("seven corners", m, 208, 7, 117, 24, 2);
    }

    // "(.. 0, if all lie on one straight line)"
    private static void areaOfOneLine() {
        int[][] ways = {{1, 0}, {0, 1}, {1, 1}, {2, 1}, {1, 2}};
        for (int[] way : ways) {
            MixedCells m = new MixedCells();
            // From both ends to the middle: the ends come first, so that what is put last lies between.
            for (int step : new int[] {6, 0, 5, 1, 4, 2, 3}) {
                m.put(0, way[0] * step, way[1] * step, step);
            }
            hull("seven on the line by " + way[0] + ", " + way[1], m, 0, 2, 7, 7, 1);
            MixedCells down = new MixedCells();
            for (int step : new int[] {3, 2, 4, 1, 5, 0, 6}) {
                down.put(0, way[0] * step, 12 - way[1] * step, step);
            }
            hull("seven on the line by " + way[0] + ", -" + way[1], down, 0, 2, 7, 7, 1);
        }
    }

    // hull: "how many CORNERS (1)": none to seven.
    private static void manyCorners() {
        for (int n = 0; n <= 7; n++) {
            Due.is("corners of " + n, corners(0, n).hull(0, 1), n);
        }
        MixedCells m = Build.one(0, 0, 0, 12, 0, 0, 0, 12, 0, 6, 6, 0, 6, 0, 0, 0, 6, 0, 3, 3, 0);
        hull("three corners, three on the rim, one within", m, 144, 3, 91, 36, 2);
    }

    // hull: "(3; if the SPAN of its POINTS is less than 2 all that lie in it are)"
    private static void wholePointsOfOneLine() {
        int[][] ends = {{12, 12, 13}, {12, 11, 2}, {12, 8, 5}, {12, 6, 7}, {12, 0, 13}, {0, 12, 13}, {9, 6, 4}, {1, 0, 2}};
        for (int[] end : ends) {
            String name = "from (0, 0) to (" + end[0] + ", " + end[1] + ")";
            hull(name, Build.one(0, 0, 0, end[0], end[1], 0), 0, 2, end[2], end[2], 1);
            hull(name + ", falling", Build.one(0, 12, 0, end[0], 12 - end[1], 0), 0, 2, end[2], end[2], 1);
        }
        hull("one point at the first place", Build.one(0, 0, 0), 0, 1, 1, 1, 0);
        hull("one point at the last place", Build.one(12, 12, 50), 0, 1, 1, 1, 0);
    }

    // hull: "how many (x, y) of two whole numbers lie in it, its rim with it (2), on its rim (3 ..)"
    private static void wholePointsAndRim() {
        hull("one within", Build.one(0, 0, 0, 2, 1, 0, 1, 2, 0), 3, 3, 4, 3, 2);
        hull("none within, four on the rim", Build.one(5, 5, 0, 6, 5, 0, 5, 6, 0, 6, 6, 0), 2, 4, 4, 4, 2);
        hull("on the rim, and no point of the body", Build.one(0, 0, 0, 3, 0, 0, 0, 1, 0), 3, 3, 5, 5, 2);
        hull("on its corner, a square", Build.one(6, 0, 0, 12, 6, 0, 6, 12, 0, 0, 6, 0), 144, 4, 85, 24, 2);
    }

    // "SPAN of some POINTS: 0 there is one alone; 1 all lie on one straight line, and there are two or more; 2 they do
    // not. (NONE: there is none.)"
    private static void spans() {
        MixedCells m = new MixedCells();
        Due.is("span of none", m.hull(0, 4), -6);
        m.put(0, 0, 3, 0);
        Due.is("span of one alone", m.hull(0, 4), 0);
        for (int k = 1; k < 6; k++) {
            m.put(0, 2 * k, 3 + k, 50);
            Due.is("span of " + (k + 1) + " on one line", m.hull(0, 4), 1);
        }
        m.put(0, 12, 10, 0);
        Due.is("span of seven, the last one beside the line", m.hull(0, 4), 2);
        m.take(0, 6);
        m.put(0, 12, 9, 0);
        Due.is("span of seven on one line", m.hull(0, 4), 1);
        m.take(0, 0);
        m.put(0, 0, 4, 0);
        Due.is("span of seven, one end beside the line", m.hull(0, 4), 2);
    }

    // hull: "the SPAN of its POINTS (4; NONE); without POINTS 0 to 3 are 0. UNKNOWN; OUTSIDE."
    private static void hullWithoutPoints() {
        for (int body = 0; body < 4; body++) {
            MixedCells m = corners(body, 7);
            m.clear(body);
            int[] due = {0, 0, 0, 0, -6};
            for (int what = 0; what < 5; what++) {
                Due.is("cleared: hull(" + body + ", " + what + ")", m.hull(body, what), due[what]);
                Due.is("new: hull(" + body + ", " + what + ")", new MixedCells().hull(body, what), due[what]);
            }
            Due.is("cleared: hull(" + body + ", 5)", m.hull(body, 5), -2);
            Due.is("cleared: hull(" + body + ", -1)", m.hull(body, -1), -2);
        }
    }

    private static void cornersAt(String name, MixedCells m, int... places) {
        Due.is(name + ": how many", m.hull(0, 1), places.length / 2);
        for (int i = 0; 2 * i < places.length; i++) {
            int k = m.corner(0, i);
            Due.is(name + ": x of corner " + i, m.point(0, k, 0), places[2 * i]);
            Due.is(name + ": y of corner " + i, m.point(0, k, 1), places[2 * i + 1]);
        }
        Due.is(name + ": behind the last", m.corner(0, places.length / 2), -6);
    }

    // "Its CORNERS: all of these POINTS that are not in the HULL of the others."
    private static void cornersAreNotInTheHullOfTheOthers() {
        cornersAt("one within", Build.one(6, 6, 0, 0, 0, 0, 12, 0, 0, 12, 12, 0, 0, 12, 0),
                0, 0, 12, 0, 12, 12, 0, 12);
        cornersAt("one just within", Build.one(11, 1, 0, 0, 0, 0, 12, 0, 0, 12, 12, 0), 0, 0, 12, 0, 12, 12);
        cornersAt("one on each side", Build.one(6, 0, 0, 6, 6, 0, 0, 6, 0, 0, 0, 0, 12, 0, 0, 0, 12, 0),
                0, 0, 12, 0, 0, 12);
        cornersAt("one just beside a side", Build.one(6, 5, 0, 0, 6, 0, 12, 6, 0, 6, 12, 0),
                6, 5, 12, 6, 6, 12, 0, 6);
    }

    // "Their order: the first one is that of the least y, of such of the least x; then as one goes round with the region
    // to the left": however they came.
    private static void cornersInEachOrder() {
        inEachOrder(new int[7], 0, 0);
    }

    private static void inEachOrder(int[] order, int many, int used) {
        if (many == 7) {
            inOneOrder(order);
            return;
        }
        for (int k = 0; k < 7; k++) {
            if ((used >> k & 1) == 0) {
                order[many] = k;
                inEachOrder(order, many + 1, used | 1 << k);
            }
        }
    }

    private static void inOneOrder(int[] order) {
        MixedCells m = new MixedCells();
        int[] came = new int[7];
        for (int k = 0; k < 7; k++) {
            m.put(0, Build.SEVEN_CORNERS[2 * order[k]], Build.SEVEN_CORNERS[2 * order[k] + 1], 0);
            came[order[k]] = k;
        }
        for (int i = 0; i < 7; i++) {
            Due.is("seven corners, as they came " + java.util.Arrays.toString(order) + ": corner " + i,
                    m.corner(0, i), came[i]);
        }
    }

    // "(of two: the other one)", and the first one of several that have the least y.
    private static void firstCorner() {
        cornersAt("two, the lower one last", Build.one(0, 12, 0, 12, 0, 0), 12, 0, 0, 12);
        cornersAt("two of one y", Build.one(12, 12, 0, 0, 12, 0), 0, 12, 12, 12);
        cornersAt("two of one x", Build.one(7, 12, 0, 7, 0, 0), 7, 0, 7, 12);
        cornersAt("seven on one line, as two", Build.one(3, 3, 0, 2, 4, 0, 5, 1, 0, 6, 0, 0, 0, 6, 0, 1, 5, 0, 4, 2, 0),
                6, 0, 0, 6);
        cornersAt("three of the least y", Build.one(12, 3, 0, 6, 3, 0, 0, 3, 0, 5, 12, 0), 0, 3, 12, 3, 5, 12);
        cornersAt("three of the most y", Build.one(12, 9, 0, 6, 9, 0, 0, 9, 0, 5, 0, 0), 5, 0, 12, 9, 0, 9);
        cornersAt("one alone", Build.one(12, 0, 0), 12, 0);
    }

    // corner: "NONE: there is none such (i below 0, too)."
    private static void cornerEnds() {
        for (int n = 0; n <= 7; n++) {
            MixedCells m = corners(0, n);
            for (int i = 0; i < n; i++) {
                Due.is("of " + n + ": corner(0, " + i + ")", m.corner(0, i), i);
            }
            for (int i : new int[] {-1, -2, -7, n, n + 1, 7, 8, 32, LEAST, MOST}) {
                Due.is("of " + n + ": corner(0, " + i + ")", m.corner(0, i), -6);
            }
        }
        Due.is("points that are no corners have no number there", Build.one(0, 0, 0, 1, 0, 0, 2, 0, 0).corner(0, 2), -6);
    }
}
