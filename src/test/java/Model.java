import java.util.ArrayList;
import java.util.List;
import java.util.TreeSet;

/**
 * What the document says, by its words and without a thought for speed: hulls by triangles, cells by the
 * planes through three lifted sums. It answers as MixedCells should, by other ways than MixedCells goes.
 */
final class Model {
    /** A place in the plane; a point of a body has a weight, too. */
    record Spot(int x, int y, int weight) {
        boolean liesAt(Spot other) {
            return x == other.x && y == other.y;
        }
    }

    /** (u / d, v / d), d above 0, not in lowest terms. */
    record Slope(long u, long v, long d) implements Comparable<Slope> {
        public int compareTo(Slope o) {
            int byU = Long.compare(u * o.d, o.u * d);
            return byU != 0 ? byU : Long.compare(v * o.d, o.v * d);
        }

        long height(Spot s) {
            return d * s.weight + u * s.x + v * s.y;
        }
    }

    private List<List<Spot>> bodies = new ArrayList<>();
    private final List<List<List<Spot>>> images = new ArrayList<>();

    Model() {
        for (int i = 0; i < 4; i++) {
            bodies.add(new ArrayList<>());
        }
        images.add(null);
        images.add(null);
    }

    private static boolean in(int n, int least, int most) {
        return n >= least && n <= most;
    }

    private static boolean isBody(int n) {
        return in(n, 0, 3);
    }

    int put(int body, int x, int y, int weight) {
        if (!isBody(body)) return -1;
        if (!in(x, 0, 12) || !in(y, 0, 12) || !in(weight, 0, 50)) return -2;
        List<Spot> b = bodies.get(body);
        Spot made = new Spot(x, y, weight);
        for (int k = 0; k < b.size(); k++) {
            if (b.get(k).liesAt(made)) {
                b.set(k, made);
                return k;
            }
        }
        if (b.size() == 7) return -4;
        b.add(made);
        return b.size() - 1;
    }

    int take(int body, int k) {
        if (!isBody(body)) return -1;
        List<Spot> b = bodies.get(body);
        if (!in(k, 0, b.size() - 1)) return -2;
        b.remove(k);
        return b.size();
    }

    int clear(int body) {
        if (!isBody(body)) return -1;
        int had = bodies.get(body).size();
        bodies.get(body).clear();
        return had;
    }

    int point(int body, int k, int what) {
        if (!isBody(body)) return -1;
        if (!in(what, 0, 2)) return -2;
        List<Spot> b = bodies.get(body);
        if (!in(k, 0, b.size() - 1)) return -6;
        return what == 0 ? b.get(k).x : what == 1 ? b.get(k).y : b.get(k).weight;
    }

    private static long turn(Spot a, Spot b, Spot c) {
        return (long) (b.x - a.x) * (c.y - a.y) - (long) (b.y - a.y) * (c.x - a.x);
    }

    /** Whether q lies in the triangle, which may be a line or a point. */
    private static boolean inTriangle(Spot a, Spot b, Spot c, Spot q) {
        long ab = turn(a, b, q);
        long bc = turn(b, c, q);
        long ca = turn(c, a, q);
        boolean isBeside = (ab < 0 || bc < 0 || ca < 0) && (ab > 0 || bc > 0 || ca > 0);
        return !isBeside
                && in(q.x, Math.min(a.x, Math.min(b.x, c.x)), Math.max(a.x, Math.max(b.x, c.x)))
                && in(q.y, Math.min(a.y, Math.min(b.y, c.y)), Math.max(a.y, Math.max(b.y, c.y)));
    }

    /** A hull is the union of the triangles of its points. */
    private static boolean inHull(List<Spot> all, Spot q, boolean withoutItself) {
        for (int i = 0; i < all.size(); i++) {
            if (withoutItself && all.get(i).liesAt(q)) continue;
            for (int j = i; j < all.size(); j++) {
                if (withoutItself && all.get(j).liesAt(q)) continue;
                for (int k = j; k < all.size(); k++) {
                    if (withoutItself && all.get(k).liesAt(q)) continue;
                    if (inTriangle(all.get(i), all.get(j), all.get(k), q)) return true;
                }
            }
        }
        return false;
    }

    static List<Spot> corners(List<Spot> all) {
        List<Spot> found = new ArrayList<>();
        for (Spot s : all) {
            if (!inHull(all, s, true)) found.add(s);
        }
        if (found.isEmpty()) return found;
        Spot first = found.get(0);
        for (Spot s : found) {
            if (s.y < first.y || s.y == first.y && s.x < first.x) first = s;
        }
        Spot start = first;
        found.remove(start);
        found.sort((s, t) -> Long.signum(-turn(start, s, t)));
        found.add(0, start);
        return found;
    }

    static int area(List<Spot> all) {
        List<Spot> c = corners(all);
        int twice = 0;
        for (int i = 2; i < c.size(); i++) {
            twice += turn(c.get(0), c.get(i - 1), c.get(i));
        }
        return twice;
    }

    static int span(List<Spot> all) {
        if (all.isEmpty()) return -6;
        if (all.size() == 1) return 0;
        for (Spot s : all) {
            for (Spot t : all) {
                if (turn(all.get(0), s, t) != 0) return 2;
            }
        }
        return 1;
    }

    /** On the rim: a line through q and a point has all the points on one side (or on it). */
    private static boolean onRim(List<Spot> all, Spot q) {
        for (Spot s : all) {
            for (Spot t : all) {
                if (s.liesAt(t) || turn(s, t, q) != 0) continue;
                boolean isOneSided = true;
                for (Spot o : all) isOneSided &= turn(s, t, o) >= 0;
                if (isOneSided) return true;
            }
        }
        return false;
    }

    int hull(int body, int what) {
        if (!isBody(body)) return -1;
        if (!in(what, 0, 4)) return -2;
        List<Spot> b = bodies.get(body);
        if (what == 0) return area(b);
        if (what == 1) return corners(b).size();
        if (what == 4) return span(b);
        int found = 0;
        for (int x = 0; x <= 12; x++) {
            for (int y = 0; y <= 12; y++) {
                Spot q = new Spot(x, y, 0);
                if (inHull(b, q, false) && (what == 2 || span(b) < 2 || onRim(b, q))) found++;
            }
        }
        return found;
    }

    int corner(int body, int i) {
        if (!isBody(body)) return -1;
        List<Spot> c = corners(bodies.get(body));
        return in(i, 0, c.size() - 1) ? bodies.get(body).indexOf(c.get(i)) : -6;
    }

    /** Each (x, y) once; the weights are left out. */
    static List<Spot> sums(List<Spot> a, List<Spot> b) {
        List<Spot> all = new ArrayList<>();
        for (Spot s : a) {
            for (Spot t : b) {
                Spot sum = new Spot(s.x + t.x, s.y + t.y, 0);
                if (!all.contains(sum)) all.add(sum);
            }
        }
        return all;
    }

    int sum(int a, int b, int what) {
        if (!isBody(a) || !isBody(b)) return -1;
        if (!in(what, 0, 3)) return -2;
        List<Spot> all = sums(bodies.get(a), bodies.get(b));
        if (what == 0) return all.size();
        if (what == 1) return area(all);
        if (what == 2) return corners(all).size();
        return all.isEmpty() ? 0 : area(all) - area(bodies.get(a)) - area(bodies.get(b));
    }

    int sumCorner(int a, int b, int i, int what) {
        if (!isBody(a) || !isBody(b)) return -1;
        if (!in(what, 0, 1)) return -2;
        List<Spot> c = corners(sums(bodies.get(a), bodies.get(b)));
        if (!in(i, 0, c.size() - 1)) return -6;
        return what == 0 ? c.get(i).x : c.get(i).y;
    }

    /** Of a place that several sums have, the lightest one is lifted least. */
    private static List<Spot> lifted(List<Spot> a, List<Spot> b) {
        List<Spot> all = new ArrayList<>();
        for (Spot place : sums(a, b)) {
            int least = Integer.MAX_VALUE;
            for (Spot s : a) {
                for (Spot t : b) {
                    if (s.x + t.x == place.x && s.y + t.y == place.y) least = Math.min(least, s.weight + t.weight);
                }
            }
            all.add(new Spot(place.x, place.y, least));
        }
        return all;
    }

    /** By the slope all three are of one height. */
    private static Slope through(Spot p, Spot q, Spot r) {
        long d = turn(p, q, r);
        long u = -((long) (q.weight - p.weight) * (r.y - p.y) - (long) (r.weight - p.weight) * (q.y - p.y));
        long v = -((long) (q.x - p.x) * (r.weight - p.weight) - (long) (r.x - p.x) * (q.weight - p.weight));
        return d < 0 ? new Slope(-u, -v, -d) : new Slope(u, v, d);
    }

    private static boolean isLeast(List<Spot> all, Slope slope, Spot one) {
        for (Spot s : all) {
            if (slope.height(s) < slope.height(one)) return false;
        }
        return true;
    }

    private List<Slope> slopes(int a, int b) {
        List<Spot> all = lifted(bodies.get(a), bodies.get(b));
        TreeSet<Slope> found = new TreeSet<>();
        for (int i = 0; i < all.size(); i++) {
            for (int j = i + 1; j < all.size(); j++) {
                for (int k = j + 1; k < all.size(); k++) {
                    if (turn(all.get(i), all.get(j), all.get(k)) == 0) continue;
                    Slope slope = through(all.get(i), all.get(j), all.get(k));
                    if (isLeast(all, slope, all.get(i))) found.add(slope);
                }
            }
        }
        return new ArrayList<>(found);
    }

    private static List<Spot> lowPoints(List<Spot> body, Slope slope) {
        List<Spot> low = new ArrayList<>();
        for (Spot s : body) {
            if (isLeast(body, slope, s)) low.add(s);
        }
        return low;
    }

    private static int set(List<Spot> body, List<Spot> some) {
        int set = 0;
        for (Spot s : some) set |= 1 << body.indexOf(s);
        return set;
    }

    private int ofCell(int a, int b, Slope slope, int what) {
        List<Spot> lowA = lowPoints(bodies.get(a), slope);
        List<Spot> lowB = lowPoints(bodies.get(b), slope);
        switch (what) {
            case 0:
                return 10 * span(lowA) + span(lowB);
            case 1:
                return area(sums(lowA, lowB));
            case 2:
                return area(sums(lowA, lowB)) - area(lowA) - area(lowB);
            case 3:
                return set(bodies.get(a), lowA);
            default:
                return set(bodies.get(b), lowB);
        }
    }

    int cells(int a, int b, int what) {
        if (!isBody(a) || !isBody(b)) return -1;
        if (!in(what, 0, 2) && !List.of(102, 111, 112, 120, 121, 122).contains(what)) return -2;
        List<Slope> all = slopes(a, b);
        if (what == 0) return all.size();
        int total = 0;
        for (Slope s : all) {
            total += what < 3 ? ofCell(a, b, s, what) : ofCell(a, b, s, 0) == what - 100 ? 1 : 0;
        }
        return total;
    }

    int cell(int a, int b, int i, int what) {
        if (!isBody(a) || !isBody(b)) return -1;
        if (!in(what, 0, 4)) return -2;
        List<Slope> all = slopes(a, b);
        return in(i, 0, all.size() - 1) ? ofCell(a, b, all.get(i), what) : -6;
    }

    int slope(int a, int b, int i, int what) {
        if (!isBody(a) || !isBody(b)) return -1;
        if (!in(what, 0, 3)) return -2;
        List<Slope> all = slopes(a, b);
        if (!in(i, 0, all.size() - 1)) return -6;
        long upper = what < 2 ? all.get(i).u : all.get(i).v;
        long lower = all.get(i).d;
        for (long by = lower; by > 1; by--) {
            if (upper % by == 0 && lower % by == 0) {
                upper /= by;
                lower /= by;
            }
        }
        return (int) (what % 2 == 0 ? upper + 100000 : lower);
    }

    int low(int body, int u, int v) {
        if (!isBody(body)) return -1;
        if (!in(u, -1000, 1000) || !in(v, -1000, 1000)) return -2;
        return set(bodies.get(body), lowPoints(bodies.get(body), new Slope(u, v, 1)));
    }

    int fan(int body, int what) {
        if (!isBody(body)) return -1;
        if (!in(what, 0, 2)) return -2;
        List<Spot> all = List.of(new Spot(0, 0, 0));
        List<Spot> ends = all;
        for (Spot s : bodies.get(body)) {
            List<Spot> stroke = List.of(new Spot(0, 0, 0), s);
            all = sums(all, stroke);
            // The corners of a sum are sums of corners; else hulls of 128 by triangles would take too long.
            ends = corners(sums(ends, stroke));
        }
        return what == 0 ? area(ends) : what == 1 ? ends.size() : all.size();
    }

    private static boolean isRoot(List<Spot> body, int a, int b, int p) {
        long value = 0;
        for (Spot s : body) {
            long term = s.weight;
            for (int i = 0; i < s.x; i++) term = term * a % p;
            for (int i = 0; i < s.y; i++) term = term * b % p;
            value += term;
        }
        return value % p == 0;
    }

    int roots(int a, int b, int p) {
        if (!isBody(a) || !isBody(b)) return -1;
        if (!List.of(2, 3, 5, 7, 11, 13).contains(p)) return -2;
        int found = 0;
        for (int i = 1; i < p; i++) {
            for (int j = 1; j < p; j++) {
                if (isRoot(bodies.get(a), i, j, p) && isRoot(bodies.get(b), i, j, p)) found++;
            }
        }
        return found;
    }

    private static List<List<Spot>> copy(List<List<Spot>> from) {
        List<List<Spot>> made = new ArrayList<>();
        for (List<Spot> b : from) made.add(new ArrayList<>(b));
        return made;
    }

    int image(int k) {
        if (!in(k, 0, 1)) return -2;
        images.set(k, copy(bodies));
        return 1;
    }

    int restore(int k) {
        if (!in(k, 0, 1)) return -2;
        if (images.get(k) == null) return -3;
        bodies = copy(images.get(k));
        return 1;
    }

    int count(int what) {
        if (!in(what, 0, 6)) return -2;
        if (what < 4) return bodies.get(what).size();
        if (what == 6) return (images.get(0) == null ? 0 : 1) + (images.get(1) == null ? 0 : 2);
        int total = 0;
        int set = 0;
        for (int i = 0; i < 4; i++) {
            total += bodies.get(i).size();
            set += bodies.get(i).isEmpty() ? 0 : 1 << i;
        }
        return what == 4 ? total : set;
    }
}
