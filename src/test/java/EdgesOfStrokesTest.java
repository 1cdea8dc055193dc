/**
 * The edges that promises 14 and 15 and part 4 of the terms name: fan, roots.
 * Ahead of each test stands the sentence that it is for.
 */
public final class EdgesOfStrokesTest {
    private static final int[] PRIMES = {2, 3, 5, 7, 11, 13};

    public static void main(String[] args) {
        fanWithoutPoints();
        fanOfOneStroke();
        eachStrokeOnce();
        eachPlaceOnce();
        fanOfOneLine();
        mostCorners();
        largestFan();
        strokeThatGoesNowhere();
        fanEnds();
        rootsWithoutPoints();
        rootsAreOneToPLessOne();
        powersOfZeroAndTwelve();
        weightsOfZeroAndFifty();
        sevenTerms();
        ofTwoOrOfOne();
        primesAlone();
        Due.end();
    }

    private static void fan(String name, MixedCells m, int... due) {
        for (int what = 0; what < due.length; what++) {
            Due.is(name + ": fan(0, " + what + ")", m.fan(0, what), due[what]);
        }
    }

    // "(without POINTS: (0, 0) alone)"
    private static void fanWithoutPoints() {
        for (int body = 0; body < 4; body++) {
            MixedCells m = new MixedCells();
            Due.is("nothing: fan(" + body + ", 0)", m.fan(body, 0), 0);
            Due.is("nothing: fan(" + body + ", 1)", m.fan(body, 1), 1);
            Due.is("nothing: fan(" + body + ", 2)", m.fan(body, 2), 1);
        }
        MixedCells m = Build.one(12, 0, 0, 0, 12, 0);
        m.clear(0);
        fan("cleared", m, 0, 1, 1);
    }

    // "all (x, y) that are the sum of some (none, all) of them"
    private static void fanOfOneStroke() {
        fan("none and all of one", Build.one(12, 12, 50), 0, 2, 2);
        fan("none, each, all of two", Build.one(12, 0, 0, 0, 12, 0), 288, 4, 4);
        fan("the least area", Build.one(1, 0, 0, 12, 1, 0), 2, 4, 4);
    }

    // "each STROKE once at most"
    private static void eachStrokeOnce() {
        fan("1 and 3: no 2", Build.one(1, 0, 0, 3, 0, 0), 0, 2, 4);
        fan("1, 2 and 4: 0 to 7", Build.one(0, 1, 0, 0, 2, 0, 0, 4, 0), 0, 2, 8);
    }

    // "each (x, y) once"
    private static void eachPlaceOnce() {
        fan("1, 2 and 3: 0 to 6", Build.one(1, 0, 0, 2, 0, 0, 3, 0, 0), 0, 2, 7);
        fan("across and along", Build.one(1, 0, 0, 0, 1, 0, 1, 1, 0), 6, 6, 7);
        fan("seven, all 128 unlike", Build.one(1, 0, 0, 2, 0, 0, 4, 0, 0, 8, 0, 0, 0, 1, 0, 0, 2, 0, 0, 4, 0),
                210, 4, 128);
        fan("seven, as few as may be", Build.one(0, 0, 0, 1, 0, 0, 2, 0, 0, 3, 0, 0, 4, 0, 0, 5, 0, 0, 6, 0, 0),
                0, 2, 22);
    }

    // "Its AREA is .. 0, if all lie on one straight line", of a fan.
    private static void fanOfOneLine() {
        fan("six one way", Build.one(2, 1, 0, 4, 2, 0, 6, 3, 0, 8, 4, 0, 10, 5, 0, 12, 6, 0), 0, 2, 22);
        fan("upright", Build.one(0, 12, 0, 0, 11, 0, 0, 10, 0), 0, 2, 8);
        fan("one line that is none through (0, 0)", Build.one(0, 1, 0, 1, 1, 0, 2, 1, 0), 8, 6, 8);
    }

    // fan: "how many CORNERS that has (1)": fourteen, two for each way.
    private static void mostCorners() {
        fan("seven ways", Build.one(1, 0, 0, 2, 1, 0, 1, 1, 0, 1, 2, 0, 0, 1, 0, 1, 3, 0, 3, 1, 0),
                areaByPairs(1, 0, 2, 1, 1, 1, 1, 2, 0, 1, 1, 3, 3, 1), 14, 54);
        fan("seven ways, two of them one", Build.one(1, 0, 0, 2, 0, 0, 1, 1, 0, 1, 2, 0, 0, 1, 0, 1, 3, 0, 3, 1, 0),
                areaByPairs(1, 0, 2, 0, 1, 1, 1, 2, 0, 1, 1, 3, 3, 1), 12);
    }

    /* The area of a sum of strokes is that of all their pairs, added, and told twice. */
    private static int areaByPairs(int... strokes) {
        int area = 0;
        for (int i = 0; i < strokes.length; i += 2) {
            for (int j = 0; j < i; j += 2) {
                area += 2 * Math.abs(strokes[i] * strokes[j + 1] - strokes[j] * strokes[i + 1]);
            }
        }
        return area;
    }

    // "x and y of 0 to 12": seven strokes go up to 84 at most.
    private static void largestFan() {
        int[] wide = {12, 0, 0, 12, 11, 0, 0, 11, 12, 1, 1, 12, 12, 12};
        MixedCells m = new MixedCells();
        Build.fillFlat(m, 0, 50, wide);
        fan("a wide one", m, areaByPairs(wide), 10);
        int[] far = {12, 12, 12, 11, 11, 12, 12, 10, 10, 12, 12, 9, 9, 12};
        MixedCells n = new MixedCells();
        Build.fillFlat(n, 0, 50, far);
        fan("a far one", n, areaByPairs(far), 14, 112);
    }

    // "its POINTS, each as a way from (0, 0)": one of them may be (0, 0).
    private static void strokeThatGoesNowhere() {
        fan("it alone", Build.one(0, 0, 50), 0, 1, 1);
        fan("it and another one", Build.one(5, 5, 0, 0, 0, 50), 0, 2, 2);
        fan("it and two others", Build.one(0, 0, 50, 5, 0, 0, 0, 5, 0), 50, 4, 4);
    }

    // fan: "UNKNOWN; OUTSIDE."
    private static void fanEnds() {
        for (int n = 0; n < 2; n++) {
            MixedCells m = n == 0 ? new MixedCells() : Build.one(1, 2, 3);
            Due.is("what below", m.fan(0, -1), -2);
            Due.is("the last what", m.fan(0, 2), n + 1);
            Due.is("what above", m.fan(0, 3), -2);
            Due.is("no such body", m.fan(4, 0), -1);
            Due.is("no such body, what above", m.fan(-1, 3), -1);
        }
    }

    // "(without POINTS it holds always)"
    private static void rootsWithoutPoints() {
        for (int p : PRIMES) {
            MixedCells m = new MixedCells();
            Due.is("nothing and nothing by " + p, m.roots(0, 1, p), (p - 1) * (p - 1));
            Due.is("nothing with itself by " + p, m.roots(3, 3, p), (p - 1) * (p - 1));
            Build.fill(m, 2, 1, 0, 1, 0, 0, p - 1);
            Due.is("a = 1 and nothing by " + p, m.roots(2, 0, p), p - 1);
            Due.is("nothing and a = 1 by " + p, m.roots(0, 2, p), p - 1);
            m.clear(2);
            Due.is("cleared by " + p, m.roots(2, 0, p), (p - 1) * (p - 1));
        }
    }

    // "ROOTS are pairs (a, b), both 1 to p less 1."
    private static void rootsAreOneToPLessOne() {
        for (int p : PRIMES) {
            MixedCells m = Build.one(1, 0, 1);
            Build.fill(m, 1, 0, 1, 1);
            Due.is("a is never 0 by " + p, m.roots(0, 0, p), 0);
            Due.is("b is never 0 by " + p, m.roots(1, 1, p), 0);
            m.put(0, 0, 0, p - 1);
            m.put(1, 0, 0, p - 1);
            Due.is("a is 1 by " + p, m.roots(0, 0, p), p - 1);
            Due.is("b is 1 by " + p, m.roots(1, 1, p), p - 1);
            Due.is("both are 1 by " + p, m.roots(0, 1, p), 1);
            m.put(0, 0, 0, 1);
            m.put(1, 0, 0, 1);
            Due.is("a is p less 1 by " + p, m.roots(0, 0, p), p - 1);
            Due.is("b is p less 1 by " + p, m.roots(1, 1, p), p - 1);
            Due.is("both are p less 1 by " + p, m.roots(1, 0, p), 1);
            m.put(0, 0, 0, p - 1);
            Due.is("one is 1, the other one p less 1, by " + p, m.roots(0, 1, p), 1);
        }
    }

    // "a to the power of x times b to the power of y", x and y of 0 to 12.
    private static void powersOfZeroAndTwelve() {
        for (int p : PRIMES) {
            // Any number that is not 0 is 1 by the power of 12, but by 11, where it is its square.
            int all = (p - 1) * (p - 1);
            int due = p == 11 ? 20 : all;
            MixedCells m = Build.one(12, 0, 1, 0, 0, p - 1);
            Build.fill(m, 1, 0, 12, 1, 0, 0, p - 1);
            Build.fill(m, 2, 12, 12, 1, 0, 0, p - 1);
            Build.fill(m, 3, 0, 0, 1);
            Due.is("a by 12 is 1 by " + p, m.roots(0, 0, p), due);
            Due.is("b by 12 is 1 by " + p, m.roots(1, 1, p), due);
            Due.is("both are 1 by " + p, m.roots(0, 1, p), p == 11 ? 4 : all);
            Due.is("a b by 12 is 1 by " + p, m.roots(2, 2, p), due);
            Due.is("by the power of 0 all are 1 by " + p, m.roots(3, 3, p), 0);
        }
    }

    // "WEIGHT times ..", a WEIGHT of 0 to 50.
    private static void weightsOfZeroAndFifty() {
        for (int p : PRIMES) {
            int all = (p - 1) * (p - 1);
            MixedCells m = Build.one(7, 3, 0);
            Due.is("0 times any by " + p, m.roots(0, 0, p), all);
            m.put(0, 7, 3, 50);
            Due.is("50 times any by " + p, m.roots(0, 0, p), p == 2 || p == 5 ? all : 0);
            m.put(0, 7, 3, p);
            Due.is("p times any by " + p, m.roots(0, 0, p), all);
            m.put(0, 7, 3, p - 1);
            Due.is("p less 1 times any by " + p, m.roots(0, 0, p), 0);
        }
    }

    // "the sum, over its POINTS": all seven.
    private static void sevenTerms() {
        // 1 + a + .. + a to the power of 6: 0 by 7 at a = 1; else where a to the power of 7 is 1, and a is not.
        int[] due = {0, 0, 0, 6, 0, 0};
        for (int i = 0; i < PRIMES.length; i++) {
            MixedCells m = new MixedCells();
            for (int k = 0; k < 7; k++) {
                m.put(0, k, 0, 1);
                m.put(1, 12, 12 - k, 50);
            }
            int p = PRIMES[i];
            Due.is("seven powers of a by " + p, m.roots(0, 0, p), due[i]);
            int all = (p - 1) * (p - 1);
            Due.is("seven powers of b, 50 times, by " + p, m.roots(1, 1, p), p == 2 || p == 5 ? all : due[i]);
            Due.is("both by " + p, m.roots(0, 1, p), p == 7 ? 1 : 0);
        }
    }

    // "both EQUATIONS of two BODIES (or of one) have together"
    private static void ofTwoOrOfOne() {
        MixedCells m = Build.one(1, 0, 1, 0, 1, 12);
        Build.fill(m, 1, 1, 1, 1, 0, 0, 12);
        Due.is("a = b by 13", m.roots(0, 0, 13), 12);
        Due.is("a b = 1 by 13", m.roots(1, 1, 13), 12);
        Due.is("both by 13", m.roots(0, 1, 13), 2);
        Due.is("both by 13, the other way round", m.roots(1, 0, 13), 2);
        Due.is("by 2 they are a = 0 and a b = 0", m.roots(0, 1, 2), 0);
    }

    // roots: "by a prime p, 2, 3, 5, 7, 11 or 13 .. OUTSIDE: p."
    private static void primesAlone() {
        MixedCells m = new MixedCells();
        for (int p = -20; p <= 40; p++) {
            boolean isOne = p == 2 || p == 3 || p == 5 || p == 7 || p == 11 || p == 13;
            Due.is("roots(0, 0, " + p + ")", m.roots(0, 0, p), isOne ? (p - 1) * (p - 1) : -2);
        }
        for (int p : new int[] {Integer.MIN_VALUE, -256, 256 + 2, 65536 + 13, Integer.MAX_VALUE}) {
            Due.is("roots(0, 0, " + p + ")", m.roots(0, 0, p), -2);
        }
    }
}
