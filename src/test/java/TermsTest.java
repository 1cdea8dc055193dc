import java.util.ArrayList;
import java.util.List;

/**
 * What the document says of all calls: how many an object is used for, and that what is told is as things are.
 * (The order of refusals, and that they change nothing: RefusalsTest.)
 */
public final class TermsTest {
    private interface Change {
        void on(MixedCells m);
    }

    private interface Ask {
        int of(MixedCells m);
    }

    public static void main(String[] args) {
        constants();
        fiveHundredAndTwelve();
        asThingsAre();
        asThingsAreOfEachPair();
        eachAfterEach();
        askedTwice();
        Due.end();
    }

    // "UNKNOWN = -1, OUTSIDE = -2, STATE = -3, FULL = -4, NONE = -6"
    private static void constants() {
        MixedCells m = Build.one(0, 0, 0, 1, 0, 0, 2, 0, 0, 3, 0, 0, 4, 0, 0, 5, 0, 0, 6, 0, 0);
        Due.is("UNKNOWN", m.clear(4), MixedCells.UNKNOWN);
        Due.is("OUTSIDE", m.count(7), MixedCells.OUTSIDE);
        Due.is("STATE", m.restore(0), MixedCells.STATE);
        Due.is("FULL", m.put(0, 7, 0, 0), MixedCells.FULL);
        Due.is("NONE", m.point(0, 7, 0), MixedCells.NONE);
    }

    // "An object is used for at most 512 calls after it has been made": the last of them is told as the first.
    private static void fiveHundredAndTwelve() {
        int[] due = {6, 5, 6, 12, 208, 3, 832, 8, 1, 22, 100000, 48, 7, 16, 1, 1, 12};
        for (int call = 0; call < due.length; call++) {
            MixedCells m = new MixedCells();
            // Each round: 16 calls that leave the object as it was, but for image 0.
            for (int round = 0; round < 31; round++) {
                manyCalls(m);
            }
            Build.fillFlat(m, 0, 3, 4, 0, 8, 0, 12, 4, 12, 8, 8, 12, 4, 12);
            Build.fillFlat(m, 1, 3, Build.SEVEN_CORNERS);
            m.image(0);
            // 31 * 16 + 6 + 7 + 1: 510; one more, and the last one.
            m.count(6);
            Due.is("the last call, number " + call, lastCall(m, call), due[call]);
        }
    }

    private static void manyCalls(MixedCells m) {
        for (int k = 0; k < 6; k++) {
            m.put(2, k, k * k % 13, 50 - k);
        }
        m.image(0);
        m.cells(2, 2, 1);
        m.hull(2, 2);
        m.fan(2, 2);
        m.roots(2, 2, 13);
        m.take(2, 0);
        m.restore(0);
        m.sum(2, 2, 3);
        m.clear(2);
        m.put(9, 9, 9, 9);
    }

    private static int lastCall(MixedCells m, int call) {
        switch (call) {
            case 0: return m.put(0, 0, 6, 3);
            case 1: return m.take(0, 0);
            case 2: return m.clear(0);
            case 3: return m.point(1, 3, 0);
            case 4: return m.hull(1, 0);
            case 5: return m.corner(1, 3);
            case 6: return m.sum(1, 1, 1);
            case 7: return m.sumCorner(1, 1, 0, 0);
            case 8: return m.cells(1, 1, 0);
            case 9: return m.cell(1, 1, 0, 0);
            case 10: return m.slope(1, 1, 0, 0);
            case 11: return m.low(1, 0, -1000);
            case 12: return m.count(1);
            case 13: return m.roots(3, 3, 5);
            case 14: return m.image(1);
            case 15: return m.restore(0);
            default: return m.fan(1, 1);
        }
    }

    private static MixedCells start() {
        MixedCells m = Build.one(0, 0, 4, 5, 0, 0, 0, 5, 0, 2, 2, 9, 7, 7, 1);
        Build.fill(m, 1, 1, 1, 0, 4, 2, 3, 2, 6, 1);
        return m;
    }

    // "All that is told is as things are when it is asked."
    private static void asThingsAre() {
        changed("a point comes", m -> m.put(0, 12, 3, 2));
        changed("a weight changes", m -> m.put(0, 2, 2, 0));
        changed("a weight changes in the other body", m -> m.put(1, 4, 2, 0));
        changed("a point goes", m -> m.take(0, 1));
        changed("the last point goes", m -> m.take(1, 2));
        changed("a body is cleared", m -> m.clear(0));
        changed("the other body is cleared", m -> m.clear(1));
        changed("one point is left", m -> {
            m.take(1, 0);
            m.take(1, 0);
        });
        changed("another body", m -> m.put(2, 3, 3, 3));
        changed("restored", m -> {
            m.image(0);
            m.put(0, 11, 1, 0);
            m.take(1, 0);
            m.image(1);
            m.restore(0);
            m.restore(1);
        });
        changed("what goes comes back as the last one", m -> {
            m.take(0, 0);
            m.put(0, 0, 0, 4);
        });
    }

    /** What has been asked earlier makes no difference to what is told later. */
    private static void changed(String name, Change change) {
        MixedCells asked = start();
        String before = Build.told(asked);
        change.on(asked);
        MixedCells notAsked = start();
        change.on(notAsked);
        String due = Build.told(notAsked);
        Due.holds(name + ": as things are", Build.told(asked).equals(due));
        Due.holds(name + ": not as they were", !due.equals(before));
    }

    // "All that is told is as things are when it is asked", of whichever two bodies.
    private static void asThingsAreOfEachPair() {
        for (int a = 0; a < 3; a++) {
            for (int b = 0; b < 3; b++) {
                MixedCells notAsked = start();
                String due = Build.toldOfTwo(notAsked, a, b);
                MixedCells asked = start();
                Build.toldOfTwo(asked, 0, 1);
                Build.toldOfTwo(asked, 1, 1);
                Build.toldOfTwo(asked, b, a);
                Due.holds("bodies " + a + " and " + b, Build.toldOfTwo(asked, a, b).equals(due));
            }
        }
    }

    // "All that is told is as things are when it is asked", whatever was asked just ahead of it.
    private static void eachAfterEach() {
        List<Ask> asks = asks();
        for (int later = 0; later < asks.size(); later++) {
            int due = asks.get(later).of(unlikeBodies());
            for (int earlier = 0; earlier < asks.size(); earlier++) {
                MixedCells m = unlikeBodies();
                asks.get(earlier).of(m);
                Due.is("ask " + later + " after ask " + earlier, asks.get(later).of(m), due);
            }
        }
    }

    /** A full body, three points, two points, and nothing. */
    private static MixedCells unlikeBodies() {
        MixedCells m = Build.one(3, 1, 4, 1, 5, 9, 2, 6, 5, 9, 2, 6, 5, 3, 5, 8, 9, 7, 9, 3, 2);
        Build.fill(m, 1, 12, 12, 0, 12, 0, 50, 11, 7, 0);
        Build.fill(m, 2, 0, 12, 3, 10, 1, 8);
        return m;
    }

    private static List<Ask> asks() {
        List<Ask> asks = new ArrayList<>();
        for (int body = 0; body < 4; body++) {
            int a = body;
            asks.add(m -> m.hull(a, 0));
            asks.add(m -> m.hull(a, 1));
            asks.add(m -> m.hull(a, 2));
            asks.add(m -> m.hull(a, 3));
            asks.add(m -> m.hull(a, 4));
            asks.add(m -> m.corner(a, 1));
            asks.add(m -> m.fan(a, 0));
            asks.add(m -> m.fan(a, 1));
            asks.add(m -> m.fan(a, 2));
            asks.add(m -> m.low(a, 1, -1));
        }
        for (int[] pair : new int[][] {{0, 1}, {1, 2}, {2, 2}, {3, 0}}) {
            int a = pair[0];
            int b = pair[1];
            asks.add(m -> m.sum(a, b, 0));
            asks.add(m -> m.sum(a, b, 1));
            asks.add(m -> m.sum(a, b, 2));
            asks.add(m -> m.sum(a, b, 3));
            asks.add(m -> m.sumCorner(a, b, 1, 0));
            asks.add(m -> m.cells(a, b, 0));
            asks.add(m -> m.cells(a, b, 1));
            asks.add(m -> m.cells(a, b, 2));
            asks.add(m -> m.cells(a, b, 111));
            asks.add(m -> m.cell(a, b, 0, 1));
            asks.add(m -> m.cell(a, b, 0, 2));
            asks.add(m -> m.cell(a, b, 0, 3));
            asks.add(m -> m.slope(a, b, 0, 2));
            asks.add(m -> m.roots(a, b, 3));
            asks.add(m -> m.roots(a, b, 13));
        }
        return asks;
    }

    /** To ask changes nothing. */
    private static void askedTwice() {
        MixedCells m = start();
        String before = Build.state(m);
        String first = Build.told(m);
        Due.holds("the same is told twice", Build.told(m).equals(first));
        Due.holds("to ask changes nothing", Build.state(m).equals(before));
    }
}
