/** Sums of bodies in the plane, and their mixed cells. */
public final class MixedCells {
    public static final int UNKNOWN = -1, OUTSIDE = -2, STATE = -3, FULL = -4, NONE = -6;

    private static final int BODIES = 4;
    private static final int IMAGES = 2;
    private static final int POINTS = 7;
    private static final int ALL_POINTS = (1 << POINTS) - 1;
    private static final int WIDEST = 12;
    private static final int HEAVIEST = 50;
    private static final int STEEPEST = 1000;
    private static final int LIFT = 100000;
    private static final int LARGEST_PRIME = 13;

    private final Body[] bodies = new Body[BODIES];
    private final Body[] kept = new Body[IMAGES * BODIES];
    private int keptImages;
    /* Made once and used again by every call, so that calls make hardly any objects. */
    private final Region region = new Region();
    private final Cutting cutting = new Cutting();
    private final int[][] powers = new int[LARGEST_PRIME][WIDEST + 1];

    public MixedCells() {
        for (int i = 0; i < bodies.length; i++) {
            bodies[i] = new Body();
        }
        for (int i = 0; i < kept.length; i++) {
            kept[i] = new Body();
        }
    }

    // ---- 1 bodies

    public int put(int body, int x, int y, int weight) {
        Body b = bodyAt(body);
        if (b == null) {
            return UNKNOWN;
        }
        if (!isWithin(x, 0, WIDEST) || !isWithin(y, 0, WIDEST) || !isWithin(weight, 0, HEAVIEST)) {
            return OUTSIDE;
        }
        int k = b.find(x, y);
        if (k < 0) {
            return b.size < POINTS ? b.append(x, y, weight) : FULL;
        }
        b.weight[k] = weight;
        return k;
    }

    public int take(int body, int k) {
        Body b = bodyAt(body);
        if (b == null) {
            return UNKNOWN;
        }
        if (!b.has(k)) {
            return OUTSIDE;
        }
        b.remove(k);
        return b.size;
    }

    public int clear(int body) {
        Body b = bodyAt(body);
        if (b == null) {
            return UNKNOWN;
        }
        int had = b.size;
        b.size = 0;
        return had;
    }

    public int point(int body, int k, int what) {
        Body b = bodyAt(body);
        if (b == null) {
            return UNKNOWN;
        }
        if (!isWithin(what, 0, 2)) {
            return OUTSIDE;
        }
        if (!b.has(k)) {
            return NONE;
        }
        switch (what) {
            case 0:
                return b.x[k];
            case 1:
                return b.y[k];
            default:
                return b.weight[k];
        }
    }

    public int hull(int body, int what) {
        Body b = bodyAt(body);
        if (b == null) {
            return UNKNOWN;
        }
        if (!isWithin(what, 0, 4)) {
            return OUTSIDE;
        }
        region.gather(b, b.all());
        switch (what) {
            case 0:
                return region.area();
            case 1:
                return region.corners;
            case 2:
                return region.wholePoints();
            case 3:
                return region.rimPoints();
            default:
                return region.span();
        }
    }

    public int corner(int body, int i) {
        Body b = bodyAt(body);
        if (b == null) {
            return UNKNOWN;
        }
        region.gather(b, b.all());
        if (!region.hasCorner(i)) {
            return NONE;
        }
        return b.find(region.cornerX(i), region.cornerY(i));
    }

    // ---- 2 two bodies

    public int sum(int a, int b, int what) {
        Body first = bodyAt(a);
        Body second = bodyAt(b);
        if (first == null || second == null) {
            return UNKNOWN;
        }
        if (!isWithin(what, 0, 3)) {
            return OUTSIDE;
        }
        if (what == 3) {
            return mixedOf(first, first.all(), second, second.all());
        }
        region.gatherSums(first, first.all(), second, second.all());
        switch (what) {
            case 0:
                return region.size;
            case 1:
                return region.area();
            default:
                return region.corners;
        }
    }

    public int sumCorner(int a, int b, int i, int what) {
        Body first = bodyAt(a);
        Body second = bodyAt(b);
        if (first == null || second == null) {
            return UNKNOWN;
        }
        if (!isWithin(what, 0, 1)) {
            return OUTSIDE;
        }
        region.gatherSums(first, first.all(), second, second.all());
        if (!region.hasCorner(i)) {
            return NONE;
        }
        return what == 0 ? region.cornerX(i) : region.cornerY(i);
    }

    // ---- 3 cells

    public int cells(int a, int b, int what) {
        Body first = bodyAt(a);
        Body second = bodyAt(b);
        if (first == null || second == null) {
            return UNKNOWN;
        }
        if (!isWithin(what, 0, 2) && !isKindAsked(what)) {
            return OUTSIDE;
        }
        cutting.cut(first, second);
        if (what == 0) {
            return cutting.size;
        }
        int total = 0;
        for (int i = 0; i < cutting.size; i++) {
            total += shareOf(cutting.get(i), first, second, what);
        }
        return total;
    }

    public int cell(int a, int b, int i, int what) {
        Body first = bodyAt(a);
        Body second = bodyAt(b);
        if (first == null || second == null) {
            return UNKNOWN;
        }
        if (!isWithin(what, 0, 4)) {
            return OUTSIDE;
        }
        cutting.cut(first, second);
        Cell c = cutting.get(i);
        if (c == null) {
            return NONE;
        }
        switch (what) {
            case 0:
                return kindOf(c, first, second);
            case 1:
                return region.gatherSums(first, c.firstLow, second, c.secondLow).area();
            case 2:
                return mixedOf(first, c.firstLow, second, c.secondLow);
            case 3:
                return c.firstLow;
            default:
                return c.secondLow;
        }
    }

    public int slope(int a, int b, int i, int what) {
        Body first = bodyAt(a);
        Body second = bodyAt(b);
        if (first == null || second == null) {
            return UNKNOWN;
        }
        if (!isWithin(what, 0, 3)) {
            return OUTSIDE;
        }
        cutting.cut(first, second);
        Cell c = cutting.get(i);
        if (c == null) {
            return NONE;
        }
        switch (what) {
            case 0:
                return LIFT + c.uUpper;
            case 1:
                return c.uLower;
            case 2:
                return LIFT + c.vUpper;
            default:
                return c.vLower;
        }
    }

    public int low(int body, int u, int v) {
        Body b = bodyAt(body);
        if (b == null) {
            return UNKNOWN;
        }
        if (!isWithin(u, -STEEPEST, STEEPEST) || !isWithin(v, -STEEPEST, STEEPEST)) {
            return OUTSIDE;
        }
        return b.lowest(u, v, 1);
    }

    // ---- 4 strokes, equations

    public int fan(int body, int what) {
        Body b = bodyAt(body);
        if (b == null) {
            return UNKNOWN;
        }
        if (!isWithin(what, 0, 2)) {
            return OUTSIDE;
        }
        region.gatherFan(b);
        switch (what) {
            case 0:
                return region.area();
            case 1:
                return region.corners;
            default:
                return region.size;
        }
    }

    public int roots(int a, int b, int p) {
        Body first = bodyAt(a);
        Body second = bodyAt(b);
        if (first == null || second == null) {
            return UNKNOWN;
        }
        if (!isSmallPrime(p)) {
            return OUTSIDE;
        }
        fillPowers(p);
        int found = 0;
        for (int i = 1; i < p; i++) {
            for (int j = 1; j < p; j++) {
                if (isRoot(first, i, j, p) && isRoot(second, i, j, p)) {
                    found++;
                }
            }
        }
        return found;
    }

    // ---- 5 images

    public int image(int k) {
        if (!isWithin(k, 0, IMAGES - 1)) {
            return OUTSIDE;
        }
        for (int i = 0; i < BODIES; i++) {
            kept[k * BODIES + i].copyFrom(bodies[i]);
        }
        keptImages |= 1 << k;
        return 1;
    }

    public int restore(int k) {
        if (!isWithin(k, 0, IMAGES - 1)) {
            return OUTSIDE;
        }
        if ((keptImages >> k & 1) == 0) {
            return STATE;
        }
        for (int i = 0; i < BODIES; i++) {
            bodies[i].copyFrom(kept[k * BODIES + i]);
        }
        return 1;
    }

    public int count(int what) {
        if (!isWithin(what, 0, 6)) {
            return OUTSIDE;
        }
        if (what < BODIES) {
            return bodies[what].size;
        }
        switch (what) {
            case 4:
                return pointsOfAll();
            case 5:
                return filledBodies();
            default:
                return keptImages;
        }
    }

    // ---- what the calls are made of

    private Body bodyAt(int body) {
        return isWithin(body, 0, BODIES - 1) ? bodies[body] : null;
    }

    private static boolean isWithin(int number, int least, int most) {
        return number >= least && number <= most;
    }

    private static boolean isKindAsked(int what) {
        switch (what) {
            case 102:
            case 111:
            case 112:
            case 120:
            case 121:
            case 122:
                return true;
            default:
                return false;
        }
    }

    private static boolean isSmallPrime(int p) {
        switch (p) {
            case 2:
            case 3:
            case 5:
            case 7:
            case 11:
            case 13:
                return true;
            default:
                return false;
        }
    }

    private int pointsOfAll() {
        int total = 0;
        for (int i = 0; i < BODIES; i++) {
            total += bodies[i].size;
        }
        return total;
    }

    private int filledBodies() {
        int set = 0;
        for (int i = 0; i < BODIES; i++) {
            if (bodies[i].size > 0) {
                set |= 1 << i;
            }
        }
        return set;
    }

    private int mixedOf(Body a, int setA, Body b, int setB) {
        // Without points there are no sums either, and the other area is not to be taken off.
        if (setA == 0 || setB == 0) {
            return 0;
        }
        int both = region.gatherSums(a, setA, b, setB).area();
        return both - region.gather(a, setA).area() - region.gather(b, setB).area();
    }

    private int kindOf(Cell c, Body a, Body b) {
        return 10 * region.gather(a, c.firstLow).span() + region.gather(b, c.secondLow).span();
    }

    /** What one cell adds to the answer of cells() for this what, 1 or more. */
    private int shareOf(Cell c, Body a, Body b, int what) {
        if (c == null) {
            return 0;
        }
        switch (what) {
            case 1:
                return region.gatherSums(a, c.firstLow, b, c.secondLow).area();
            case 2:
                return mixedOf(a, c.firstLow, b, c.secondLow);
            default:
                return kindOf(c, a, b) == what - 100 ? 1 : 0;
        }
    }

    private void fillPowers(int p) {
        if (!isWithin(p, 1, LARGEST_PRIME)) {
            return;
        }
        for (int base = 1; base < p; base++) {
            powers[base][0] = 1;
            for (int e = 1; e <= WIDEST; e++) {
                powers[base][e] = powers[base][e - 1] * base % p;
            }
        }
    }

    /** Whether b's equation holds at (i, j); the powers are filled for p, and 0 < i, j < p. */
    private boolean isRoot(Body b, int i, int j, int p) {
        if (!isWithin(p, 1, LARGEST_PRIME)) {
            return false;
        }
        int value = 0;
        for (int k = 0; k < b.size; k++) {
            value += b.weight[k] * powers[i][b.x[k]] * powers[j][b.y[k]];
        }
        return value % p == 0;
    }

    /** The greatest common divisor of two numbers that are not negative; 0, if both are 0. */
    private static int commonDivisor(int a, int b) {
        int large = a;
        int small = b;
        // Numbers of 31 bits need fewer than 64 steps.
        for (int step = 0; step < 64 && small != 0; step++) {
            int rest = large % small;
            large = small;
            small = rest;
        }
        return large;
    }

    /** Points with weights, numbered as they came. */
    private static final class Body {
        final int[] x = new int[POINTS];
        final int[] y = new int[POINTS];
        final int[] weight = new int[POINTS];
        int size;

        boolean has(int k) {
            return k >= 0 && k < size;
        }

        int all() {
            return (1 << size) - 1;
        }

        /** The number of the point (px, py), or -1. */
        int find(int px, int py) {
            for (int k = 0; k < size; k++) {
                if (x[k] == px && y[k] == py) {
                    return k;
                }
            }
            return -1;
        }

        /** The number of the new point, or -1 if there is no room. */
        int append(int px, int py, int w) {
            if (size >= POINTS) {
                return -1;
            }
            x[size] = px;
            y[size] = py;
            weight[size] = w;
            size++;
            return size - 1;
        }

        void remove(int k) {
            if (!has(k)) {
                return;
            }
            for (int i = k + 1; i < size; i++) {
                x[i - 1] = x[i];
                y[i - 1] = y[i];
                weight[i - 1] = weight[i];
            }
            size--;
        }

        void copyFrom(Body other) {
            for (int k = 0; k < other.size; k++) {
                x[k] = other.x[k];
                y[k] = other.y[k];
                weight[k] = other.weight[k];
            }
            size = other.size;
        }

        /** The low points by the slope (u / unit, v / unit), unit above 0. */
        int lowest(int u, int v, int unit) {
            int set = 0;
            int least = 0;
            for (int k = 0; k < size; k++) {
                // Times unit, to stay with whole numbers.
                int height = unit * weight[k] + u * x[k] + v * y[k];
                if (set == 0 || height < least) {
                    least = height;
                    set = 1 << k;
                } else if (height == least) {
                    set |= 1 << k;
                }
            }
            return set;
        }
    }

    /** Some (x, y), each once, and the corners of their hull. */
    private static final class Region {
        /* A fan has most: one (x, y) for each set of strokes. */
        private static final int MOST = 1 << POINTS;

        /* Rising by y, of one y by x: the first one is the first corner too. */
        private final int[] xs = new int[MOST];
        private final int[] ys = new int[MOST];
        int size;
        /* The corners, as indexes of xs and ys; while they are sought there are more, up to twice as many. */
        private final int[] round = new int[2 * MOST];
        int corners;

        Region gather(Body b, int set) {
            size = 0;
            for (int k = 0; k < b.size; k++) {
                if ((set >> k & 1) != 0) {
                    include(b.x[k], b.y[k]);
                }
            }
            return findCorners();
        }

        Region gatherSums(Body a, int setA, Body b, int setB) {
            size = 0;
            for (int i = 0; i < a.size; i++) {
                for (int j = 0; j < b.size; j++) {
                    if ((setA >> i & 1) != 0 && (setB >> j & 1) != 0) {
                        include(a.x[i] + b.x[j], a.y[i] + b.y[j]);
                    }
                }
            }
            return findCorners();
        }

        Region gatherFan(Body b) {
            size = 0;
            for (int set = 0; set <= b.all(); set++) {
                int x = 0;
                int y = 0;
                for (int k = 0; k < b.size; k++) {
                    x += (set >> k & 1) * b.x[k];
                    y += (set >> k & 1) * b.y[k];
                }
                include(x, y);
            }
            return findCorners();
        }

        private void include(int x, int y) {
            int at = size;
            while (at > 0 && comesBehind(at - 1, x, y)) {
                at--;
            }
            boolean isThere = at > 0 && xs[at - 1] == x && ys[at - 1] == y;
            if (isThere || size >= MOST) {
                return;
            }
            for (int i = size; i > at; i--) {
                xs[i] = xs[i - 1];
                ys[i] = ys[i - 1];
            }
            xs[at] = x;
            ys[at] = y;
            size++;
        }

        private boolean comesBehind(int i, int x, int y) {
            return ys[i] > y || ys[i] == y && xs[i] > x;
        }

        /* Up along the right side, then down along the left one. */
        private Region findCorners() {
            corners = 0;
            for (int i = 0; i < size; i++) {
                turnTo(i, 1);
            }
            int top = corners;
            for (int i = size - 2; i >= 0; i--) {
                turnTo(i, top);
            }
            if (size > 1) {
                // The way down ended where the way up began.
                corners--;
            }
            return this;
        }

        /* Those at which the way to i doesn't turn left are no corners; the first fixed ones (1 or more) stay. */
        private void turnTo(int i, int fixed) {
            while (corners > fixed && !turnsLeft(round[corners - 2], round[corners - 1], i)) {
                corners--;
            }
            if (corners < round.length) {
                round[corners] = i;
                corners++;
            }
        }

        private boolean turnsLeft(int i, int j, int k) {
            return (xs[j] - xs[i]) * (ys[k] - ys[i]) > (ys[j] - ys[i]) * (xs[k] - xs[i]);
        }

        boolean hasCorner(int i) {
            return i >= 0 && i < corners;
        }

        /** 0, if there is no such corner. */
        int cornerX(int i) {
            return hasCorner(i) ? xs[round[i]] : 0;
        }

        /** 0, if there is no such corner. */
        int cornerY(int i) {
            return hasCorner(i) ? ys[round[i]] : 0;
        }

        private int next(int i) {
            return i + 1 < corners ? i + 1 : 0;
        }

        /** Twice the area of the hull. */
        int area() {
            int twice = 0;
            for (int i = 0; i < corners; i++) {
                int j = next(i);
                twice += cornerX(i) * cornerY(j) - cornerX(j) * cornerY(i);
            }
            return twice;
        }

        int span() {
            return corners == 0 ? NONE : Math.min(corners, 3) - 1;
        }

        /** How many whole steps the way round has (along one line: there and back). */
        private int stepsRound() {
            int steps = 0;
            for (int i = 0; i < corners; i++) {
                int dx = Math.abs(cornerX(next(i)) - cornerX(i));
                int dy = Math.abs(cornerY(next(i)) - cornerY(i));
                steps += commonDivisor(dx, dy);
            }
            return steps;
        }

        int wholePoints() {
            // Pick's theorem; it holds for one point and for one line too, gone there and back.
            return corners == 0 ? 0 : (area() + stepsRound()) / 2 + 1;
        }

        int rimPoints() {
            return corners < 3 ? wholePoints() : stepsRound();
        }
    }

    /** A slope in lowest terms, and the low points of two bodies by it. */
    private static final class Cell {
        int uUpper;
        int uLower;
        int vUpper;
        int vLower;
        int firstLow;
        int secondLow;

        /** The slope (u / unit, v / unit), unit above 0. */
        void setSlope(int u, int v, int unit) {
            int byU = Math.max(1, commonDivisor(Math.abs(u), unit));
            int byV = Math.max(1, commonDivisor(Math.abs(v), unit));
            uUpper = u / byU;
            uLower = unit / byU;
            vUpper = v / byV;
            vLower = unit / byV;
        }

        /** Below 0, 0 or above 0, as the slope comes ahead of the other one, is it, or comes behind. */
        int compareSlope(Cell other) {
            int byU = Integer.compare(uUpper * other.uLower, other.uUpper * uLower);
            return byU != 0 ? byU : Integer.compare(vUpper * other.vLower, other.vUpper * vLower);
        }
    }

    /**
     * The cells of two bodies. The sums of the low points have span 2 just if two pairs of low points
     * of one body (or one of each) lie in unlike directions; so each two such pairs tell one slope, and it is
     * that of a cell if all of their points are low by it.
     */
    private static final class Cutting {
        /* The cells part the hull of at most 49 points, at which their corners lie: at most 2 * 49 - 5. */
        private static final int MOST = 93;
        private static final int PAIRS = POINTS * (POINTS - 1);

        private final Cell[] found = new Cell[MOST + 1];
        int size;
        private final int[] dx = new int[PAIRS];
        private final int[] dy = new int[PAIRS];
        private final int[] dw = new int[PAIRS];
        /* A set; the points of the second body are numbered from POINTS on. */
        private final int[] ends = new int[PAIRS];
        private int pairs;

        Cutting() {
            for (int i = 0; i < found.length; i++) {
                found[i] = new Cell();
            }
        }

        Cell get(int i) {
            return i >= 0 && i < size ? found[i] : null;
        }

        void cut(Body a, Body b) {
            size = 0;
            if (a.size == 0 || b.size == 0) {
                return;
            }
            pairs = 0;
            addPairs(a, 0);
            int pairsOfA = pairs;
            addPairs(b, POINTS);
            for (int i = 0; i < pairs; i++) {
                for (int j = i + 1; j < pairs; j++) {
                    boolean areOfBoth = i < pairsOfA && j >= pairsOfA;
                    // Within one body, pairs with one first point tell all triangles.
                    if (areOfBoth || firstEnd(i) == firstEnd(j)) {
                        tryPairs(a, b, i, j);
                    }
                }
            }
        }

        private void addPairs(Body b, int from) {
            for (int i = 0; i < b.size; i++) {
                for (int j = i + 1; j < b.size && pairs < PAIRS; j++) {
                    dx[pairs] = b.x[j] - b.x[i];
                    dy[pairs] = b.y[j] - b.y[i];
                    dw[pairs] = b.weight[j] - b.weight[i];
                    ends[pairs] = (1 << i | 1 << j) << from;
                    pairs++;
                }
            }
        }

        private int firstEnd(int i) {
            return Integer.numberOfTrailingZeros(ends[i]);
        }

        /* The slope by which the ends of pair i are of one height, and so are those of pair j. */
        private void tryPairs(Body a, Body b, int i, int j) {
            int turn = dx[i] * dy[j] - dx[j] * dy[i];
            if (turn == 0) {
                return;
            }
            int sign = turn < 0 ? -1 : 1;
            int unit = sign * turn;
            int u = sign * (dw[j] * dy[i] - dw[i] * dy[j]);
            int v = sign * (dw[i] * dx[j] - dw[j] * dx[i]);
            int wanted = ends[i] | ends[j];
            int lowOfA = a.lowest(u, v, unit);
            if ((wanted & ALL_POINTS & ~lowOfA) != 0) {
                return;
            }
            int lowOfB = b.lowest(u, v, unit);
            if ((wanted >> POINTS & ~lowOfB) != 0) {
                return;
            }
            Cell spare = found[size];
            spare.setSlope(u, v, unit);
            spare.firstLow = lowOfA;
            spare.secondLow = lowOfB;
            sortIn(spare);
        }

        /* The spare one lies behind those that count; a slope that is there already stays there alone. */
        private void sortIn(Cell spare) {
            int at = size;
            while (at > 0 && spare.compareSlope(found[at - 1]) < 0) {
                at--;
            }
            boolean isThere = at > 0 && spare.compareSlope(found[at - 1]) == 0;
            if (isThere || size >= MOST) {
                return;
            }
            for (int i = size; i > at; i--) {
                found[i] = found[i - 1];
            }
            found[at] = spare;
            size++;
        }
    }
}
