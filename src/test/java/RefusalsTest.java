/**
 * "Calls that are refused answer the first that fits, in the order in which they are told with the call";
 * "NONE -6 is answered only where no refusal fits"; "What is refused changes nothing".
 *
 * Each call is made with all its numbers, each at the last that is allowed and at the first that is not, below and
 * above, together; on objects whose bodies are empty, have three points, or are full.
 */
public final class RefusalsTest {
    private static final int LEAST = Integer.MIN_VALUE;
    private static final int MOST = Integer.MAX_VALUE;

    /** How many points each body has; how many images are kept. */
    private enum Start {
        EMPTY(0, 0), FEW(3, 1), FULL(7, 2);

        final int points;
        final int images;

        Start(int points, int images) {
            this.points = points;
            this.images = images;
        }

        MixedCells make() {
            MixedCells m = new MixedCells();
            if (this == EMPTY) {
                return m;
            }
            triangles(m);
            m.image(0);
            if (this == FULL) {
                m.image(1);
            }
            for (int body = 0; body < 4; body++) {
                m.clear(body);
            }
            if (this == FEW) {
                triangles(m);
                return m;
            }
            for (int body = 0; body < 4; body++) {
                Build.fillFlat(m, body, 10 * body, Build.SEVEN_CORNERS);
            }
            return m;
        }

        private static void triangles(MixedCells m) {
            for (int body = 0; body < 4; body++) {
                Build.fillFlat(m, body, 7 + body, 1 + body, 1, 5 + body, 1, 1 + body, 5);
            }
        }

        boolean has(int k) {
            return k >= 0 && k < points;
        }
    }

    /** The values of one argument that are tried, and which of them are refused, by what. */
    private record Argument(int refusal, int[] fine, int[] wrong) {
        int at(int i) {
            return i < fine.length ? fine[i] : wrong[i - fine.length];
        }

        int many() {
            return fine.length + wrong.length;
        }

        int refuses(int i) {
            return i < fine.length ? 0 : refusal;
        }
    }

    private interface Call {
        int on(MixedCells m, int[] n);
    }

    /** What is answered where no argument is refused by itself: STATE, FULL or NONE, or 0 for none of them. */
    private interface Otherwise {
        int of(Start start, int[] n);
    }

    public static void main(String[] args) {
        for (Start start : Start.values()) {
            ofBodies(start);
            ofHulls(start);
            ofTwoBodies(start);
            ofCells(start);
            ofStrokes(start);
            ofImages(start);
        }
        Due.end();
    }

    private static Argument body() {
        return new Argument(-1, new int[] {0, 3}, new int[] {-1, 4, LEAST, MOST});
    }

    private static Argument within(int least, int most) {
        return new Argument(-2, new int[] {least, most}, new int[] {least - 1, most + 1, LEAST, MOST});
    }

    /** A number that no refusal names: of a point, a corner, a cell; the last one there is, and those beside the ends. */
    private static Argument number(int last) {
        return new Argument(0, new int[] {0, last, -1, last + 1, LEAST, MOST, 32}, new int[0]);
    }

    private static int none(boolean isThere) {
        return isThere ? 0 : -6;
    }

    private static void ofBodies(Start start) {
        check(start, "put", (m, n) -> m.put(n[0], n[1], n[2], n[3]), (s, n) -> s == Start.FULL ? -4 : 0,
                body(), within(0, 12), within(0, 12), within(0, 50));
        check(start, "take", (m, n) -> m.take(n[0], n[1]), (s, n) -> s.has(n[1]) ? 0 : -2,
                body(), number(start.points - 1));
        check(start, "clear", (m, n) -> m.clear(n[0]), (s, n) -> 0, body());
        check(start, "point", (m, n) -> m.point(n[0], n[1], n[2]), (s, n) -> none(s.has(n[1])),
                body(), number(start.points - 1), within(0, 2));
    }

    private static void ofHulls(Start start) {
        check(start, "hull", (m, n) -> m.hull(n[0], n[1]), (s, n) -> none(n[1] != 4 || s.points > 0),
                body(), within(0, 4));
        check(start, "corner", (m, n) -> m.corner(n[0], n[1]), (s, n) -> none(s.has(n[1])),
                body(), number(start.points - 1));
    }

    private static void ofTwoBodies(Start start) {
        check(start, "sum", (m, n) -> m.sum(n[0], n[1], n[2]), (s, n) -> 0, body(), body(), within(0, 3));
        // The bodies are of one shape, so that their sum has as many corners as each of them.
        check(start, "sumCorner", (m, n) -> m.sumCorner(n[0], n[1], n[2], n[3]), (s, n) -> none(s.has(n[2])),
                body(), body(), number(start.points - 1), within(0, 1));
    }

    private static void ofCells(Start start) {
        // Each body has one weight: there is one cell, number 0.
        Otherwise byCell = (s, n) -> none(n[2] == 0 && s.points > 0);
        Argument ofNine = new Argument(-2, new int[] {0, 1, 2, 102, 111, 112, 120, 121, 122}, new int[] {
            -1, 3, 11, 12, 20, 22, 100, 101, 103, 110, 113, 119, 123, 202, -102, LEAST, MOST});
        check(start, "cells", (m, n) -> m.cells(n[0], n[1], n[2]), (s, n) -> 0, body(), body(), ofNine);
        check(start, "cell", (m, n) -> m.cell(n[0], n[1], n[2], n[3]), byCell,
                body(), body(), number(0), within(0, 4));
        check(start, "slope", (m, n) -> m.slope(n[0], n[1], n[2], n[3]), byCell,
                body(), body(), number(0), within(0, 3));
        check(start, "low", (m, n) -> m.low(n[0], n[1], n[2]), (s, n) -> 0,
                body(), within(-1000, 1000), within(-1000, 1000));
    }

    private static void ofStrokes(Start start) {
        Argument prime = new Argument(-2, new int[] {2, 3, 5, 7, 11, 13}, new int[] {
            -13, -7, -2, -1, 0, 1, 4, 6, 8, 9, 10, 12, 14, 15, 17, LEAST, MOST});
        check(start, "fan", (m, n) -> m.fan(n[0], n[1]), (s, n) -> 0, body(), within(0, 2));
        check(start, "roots", (m, n) -> m.roots(n[0], n[1], n[2]), (s, n) -> 0, body(), body(), prime);
    }

    private static void ofImages(Start start) {
        check(start, "image", (m, n) -> m.image(n[0]), (s, n) -> 0, within(0, 1));
        check(start, "restore", (m, n) -> m.restore(n[0]), (s, n) -> n[0] < s.images ? 0 : -3, within(0, 1));
        check(start, "count", (m, n) -> m.count(n[0]), (s, n) -> 0, within(0, 6));
    }

    /** Makes the call with all its values together; each time on an object of its own, to stay below 512 calls. */
    private static void check(Start start, String name, Call call, Otherwise otherwise, Argument... arguments) {
        String before = Build.everything(start.make());
        int many = 1;
        for (Argument a : arguments) {
            many *= a.many();
        }
        for (int number = 0; number < many; number++) {
            int[] n = new int[arguments.length];
            int refusal = 0;
            int rest = number;
            for (int i = 0; i < n.length; i++) {
                int at = rest % arguments[i].many();
                rest /= arguments[i].many();
                n[i] = arguments[i].at(at);
                refusal = first(refusal, arguments[i].refuses(at));
            }
            one(start, name, call, n, first(refusal, refusal == 0 ? otherwise.of(start, n) : 0), before);
        }
    }

    /** UNKNOWN -1 comes ahead of OUTSIDE -2, and that ahead of all others; 0 is none. */
    private static int first(int one, int other) {
        return one == 0 || other == 0 ? one + other : Math.max(one, other);
    }

    private static void one(Start start, String name, Call call, int[] n, int refusal, String before) {
        MixedCells m = start.make();
        int got = call.on(m, n);
        String told = start + ": " + name + java.util.Arrays.toString(n);
        if (refusal == 0) {
            Due.holds(told + " answered " + got + ", and is not refused", got >= 0);
            return;
        }
        Due.is(told, got, refusal);
        Due.holds(told + " is refused and changes nothing", Build.everything(m).equals(before));
    }
}
