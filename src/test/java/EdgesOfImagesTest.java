/**
 * The edges that promises 16 to 18 name: image, restore, count.
 * Ahead of each test stands the sentence that it is for.
 */
public final class EdgesOfImagesTest {
    private static final int LEAST = Integer.MIN_VALUE;
    private static final int MOST = Integer.MAX_VALUE;

    public static void main(String[] args) {
        imageEnds();
        restoreEnds();
        nothingWasKept();
        allFull();
        allEmpty();
        inPlaceOfWhatWasKept();
        asTheyWereWhenTheyWereKept();
        theImageStays();
        twoImages();
        restoredToFewer();
        countEnds();
        countOfEach();
        countOfAll();
        countOfImages();
        Due.end();
    }

    private static MixedCells full(int weight) {
        MixedCells m = new MixedCells();
        for (int body = 0; body < 4; body++) {
            for (int k = 0; k < 7; k++) {
                m.put(body, 12 - k, (body + k) % 13, weight + body + k);
            }
        }
        return m;
    }

    private static void empty(MixedCells m) {
        for (int body = 0; body < 4; body++) {
            m.clear(body);
        }
    }

    private static void state(String name, MixedCells m, String due) {
        Due.holds(name + ": " + Build.state(m), Build.state(m).equals(due));
    }

    // image: "(0, 1) .. OUTSIDE."
    private static void imageEnds() {
        for (int k : new int[] {LEAST, -32, -2, -1, 0, 1, 2, 3, 31, 32, 33, 64, 256, MOST}) {
            MixedCells m = full(0);
            boolean isOne = k == 0 || k == 1;
            Due.is("image(" + k + ")", m.image(k), isOne ? 1 : -2);
            Due.is("kept by image(" + k + ")", m.count(6), isOne ? k + 1 : 0);
        }
    }

    // restore: "OUTSIDE; STATE: nothing was kept in it."
    private static void restoreEnds() {
        for (int k : new int[] {LEAST, -32, -2, -1, 2, 3, 31, 32, 33, 64, 256, MOST}) {
            Due.is("new: restore(" + k + ")", new MixedCells().restore(k), -2);
            MixedCells m = full(0);
            m.image(0);
            m.image(1);
            m.clear(0);
            Due.is("both kept: restore(" + k + ")", m.restore(k), -2);
            Due.is("both kept: nothing comes back by " + k, m.count(0), 0);
        }
    }

    // restore: "STATE: nothing was kept in it."
    private static void nothingWasKept() {
        for (int k = 0; k < 2; k++) {
            MixedCells m = full(3);
            String before = Build.state(m);
            Due.is("none kept: restore(" + k + ")", m.restore(k), -3);
            state("none kept", m, before);
            Due.is("image of the other one", m.image(1 - k), 1);
            Due.is("the other one kept: restore(" + k + ")", m.restore(k), -3);
            m.clear(2);
            Due.is("the other one kept: still restore(" + k + ")", m.restore(k), -3);
            Due.is("the other one kept: nothing comes back", m.count(2), 0);
            Due.is("the other one can be restored", m.restore(1 - k), 1);
            Due.is("its points come back", m.count(2), 7);
            Due.is("image of this one", m.image(k), 1);
            Due.is("now something is kept", m.restore(k), 1);
        }
    }

    // image: "All BODIES are kept": four full ones, each number of them.
    private static void allFull() {
        for (int k = 0; k < 2; k++) {
            MixedCells m = full(20);
            String before = Build.state(full(20)).replaceAll("0$", "") + (k + 1);
            Due.is("image(" + k + ") of 28 points", m.image(k), 1);
            state("an image changes no body", m, before);
            empty(m);
            Build.fill(m, 1, 0, 0, 50);
            Due.is("restore(" + k + ") of 28 points", m.restore(k), 1);
            state("28 points are as they were", m, before);
            Due.is("they are full", m.put(0, 0, 12, 0), -4);
            Due.is("they are full, the last one too", m.put(3, 0, 12, 0), -4);
        }
    }

    // restore: "They are as they were when they were kept": without points, too.
    private static void allEmpty() {
        for (int k = 0; k < 2; k++) {
            MixedCells m = new MixedCells();
            Due.is("image(" + k + ") of nothing", m.image(k), 1);
            Due.is("it is kept all the same", m.count(6), k + 1);
            for (int body = 0; body < 4; body++) {
                m.put(body, body, body, body);
            }
            Due.is("restore(" + k + ") of nothing is not STATE", m.restore(k), 1);
            Due.is("nothing is there", m.count(4), 0);
            Due.is("the first number is 0 once more", m.put(2, 5, 5, 5), 0);
        }
    }

    // image: "in place of what was kept there"
    private static void inPlaceOfWhatWasKept() {
        for (int k = 0; k < 2; k++) {
            MixedCells m = full(1);
            m.image(k);
            empty(m);
            Build.fill(m, 3, 4, 4, 4);
            Due.is("image over a full one", m.image(k), 1);
            m.put(0, 1, 1, 1);
            Due.is("restore of the later one", m.restore(k), 1);
            state("one point is there", m, "|||4,4,4 |" + (k + 1));
            m.put(3, 5, 5, 5);
            m.image(k);
            empty(m);
            m.restore(k);
            state("two points are there", m, "|||4,4,4 5,5,5 |" + (k + 1));
            empty(m);
            m.image(k);
            m.put(1, 9, 9, 9);
            m.restore(k);
            state("nothing is there", m, "||||" + (k + 1));
        }
    }

    // restore: "They are as they were when they were kept": points, their numbers, their weights.
    private static void asTheyWereWhenTheyWereKept() {
        MixedCells m = Build.one(1, 2, 3, 4, 5, 6, 7, 8, 9);
        m.image(0);
        String kept = "1,2,3 4,5,6 7,8,9 ||||1";
        m.put(0, 4, 5, 50);
        state("a weight changes", m, "1,2,3 4,5,50 7,8,9 ||||1");
        m.restore(0);
        state("a weight comes back", m, kept);
        m.take(0, 0);
        m.restore(0);
        state("the first one comes back", m, kept);
        m.take(0, 2);
        m.put(0, 7, 9, 9);
        m.restore(0);
        state("the last one comes back", m, kept);
        m.clear(0);
        Build.fill(m, 0, 7, 8, 9, 4, 5, 6, 1, 2, 3);
        state("the other way round", m, "7,8,9 4,5,6 1,2,3 ||||1");
        m.restore(0);
        state("their numbers come back", m, kept);
        Build.fill(m, 0, 0, 0, 0, 0, 1, 0, 0, 2, 0, 0, 3, 0);
        Due.is("full", m.count(0), 7);
        m.restore(0);
        state("those that came later go", m, kept);
    }

    // restore: "the IMAGE stays"
    private static void theImageStays() {
        MixedCells m = Build.one(1, 2, 3);
        m.image(1);
        for (int time = 0; time < 3; time++) {
            Due.is("restore, time " + time, m.restore(1), 1);
            state("time " + time, m, "1,2,3 ||||2");
            m.put(0, 1, 2, 30 + time);
            m.put(0, 9, 9, 9);
            m.put(1, 9, 9, 9);
        }
        Due.is("restore where the body has been emptied", m.clear(0), 2);
        Due.is("restore at last", m.restore(1), 1);
        state("at last", m, "1,2,3 ||||2");
    }

    // "an IMAGE (0, 1)": one has nothing to do with the other one, and neither is a part of what is kept.
    private static void twoImages() {
        MixedCells m = Build.one(1, 1, 1);
        m.image(0);
        m.put(0, 2, 2, 2);
        m.image(1);
        m.clear(0);
        m.restore(0);
        state("the first", m, "1,1,1 ||||3");
        m.restore(1);
        state("the second", m, "1,1,1 2,2,2 ||||3");
        m.image(0);
        m.clear(0);
        m.image(1);
        m.restore(0);
        state("the second in the first", m, "1,1,1 2,2,2 ||||3");
        m.restore(1);
        state("nothing in the second", m, "||||3");
    }

    // "when one goes ..", "no two the same": nothing is left of what a restore has done away with.
    private static void restoredToFewer() {
        MixedCells m = Build.one(5, 5, 5);
        m.image(0);
        Build.fill(m, 0, 6, 6, 6, 7, 7, 7);
        m.restore(0);
        Due.is("what is gone comes as a new one", m.put(0, 7, 7, 1), 1);
        Due.is("what is gone is no point", m.point(0, 2, 0), -6);
        Due.is("what is gone is in no hull", m.hull(0, 2), 3);
        Due.is("nor among the strokes", m.fan(0, 2), 4);
    }

    // count: "OUTSIDE."
    private static void countEnds() {
        for (int what : new int[] {LEAST, -256, -2, -1, 7, 8, 32, 256, MOST}) {
            Due.is("new: count(" + what + ")", new MixedCells().count(what), -2);
            Due.is("full: count(" + what + ")", full(0).count(what), -2);
        }
    }

    // count: "How many POINTS a BODY has (its number, 0 to 3)"
    private static void countOfEach() {
        for (int body = 0; body < 4; body++) {
            MixedCells m = new MixedCells();
            for (int k = 1; k <= 7; k++) {
                m.put(body, k, k, k);
                for (int other = 0; other < 4; other++) {
                    Due.is("body " + body + " has " + k + ": count(" + other + ")",
                            m.count(other), other == body ? k : 0);
                }
            }
        }
    }

    // count: "all BODIES have together (4), the set of BODIES that have any (5)"
    private static void countOfAll() {
        for (int set = 0; set < 16; set++) {
            MixedCells m = full(0);
            for (int body = 0; body < 4; body++) {
                if ((set >> body & 1) == 0) {
                    m.clear(body);
                }
            }
            Due.is("all of the set " + set, m.count(4), 7 * Integer.bitCount(set));
            Due.is("the set " + set, m.count(5), set);
            for (int body = 0; body < 4; body++) {
                for (int k = 1; k < 7; k++) {
                    m.take(body, 0);
                }
            }
            Due.is("one in each of the set " + set, m.count(4), Integer.bitCount(set));
            Due.is("the set " + set + ", one in each", m.count(5), set);
        }
        Due.is("28 at most", full(0).count(4), 28);
    }

    // count: "which IMAGES are kept, a set: bits 0, 1 (6)"
    private static void countOfImages() {
        for (int first = 0; first < 2; first++) {
            MixedCells m = new MixedCells();
            Due.is("none", m.count(6), 0);
            m.image(first);
            Due.is("image " + first, m.count(6), 1 << first);
            m.image(first);
            Due.is("image " + first + " once more", m.count(6), 1 << first);
            m.restore(1 - first);
            Due.is("a restore that is refused keeps nothing", m.count(6), 1 << first);
            m.image(1 - first);
            Due.is("both", m.count(6), 3);
            empty(m);
            m.restore(first);
            Due.is("both, when one is restored", m.count(6), 3);
        }
    }
}
