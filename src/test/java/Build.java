/** Objects in a state that several tests ask for, and what can be read of a state. */
final class Build {
    /* Seven corners, from the first one round; the one with flat sides and the other one share no direction. */
    static final int[] SEVEN_CORNERS = {4, 0, 8, 0, 12, 4, 12, 8, 8, 12, 4, 12, 0, 6};
    static final int[] OTHER_SEVEN_CORNERS = {1, 0, 5, 1, 7, 4, 6, 7, 3, 8, 0, 6, 0, 3};

    private Build() {
    }

    /** Puts points into a body, each as x, y, weight. */
    static void fill(MixedCells m, int body, int... triples) {
        for (int i = 0; i + 2 < triples.length; i += 3) {
            m.put(body, triples[i], triples[i + 1], triples[i + 2]);
        }
    }

    /** Puts points of one weight into a body, each as x, y. */
    static void fillFlat(MixedCells m, int body, int weight, int... places) {
        for (int i = 0; i + 1 < places.length; i += 2) {
            m.put(body, places[i], places[i + 1], weight);
        }
    }

    /** An object whose body 0 has these points, each as x, y, weight. */
    static MixedCells one(int... triples) {
        MixedCells m = new MixedCells();
        fill(m, 0, triples);
        return m;
    }

    /** All that can be read of the bodies' points and of which images are kept, by 89 calls at most. */
    static String state(MixedCells m) {
        StringBuilder text = new StringBuilder();
        for (int body = 0; body < 4; body++) {
            int points = m.count(body);
            for (int k = 0; k < points; k++) {
                text.append(m.point(body, k, 0)).append(',').append(m.point(body, k, 1)).append(',')
                        .append(m.point(body, k, 2)).append(' ');
            }
            text.append('|');
        }
        return text.append(m.count(6)).toString();
    }

    /** What is told of each body, and of bodies 0 and 1 together, by 136 calls. */
    static String told(MixedCells m) {
        StringBuilder text = new StringBuilder();
        for (int body = 0; body < 4; body++) {
            for (int what = 0; what < 5; what++) {
                text.append(m.hull(body, what)).append(' ');
            }
            for (int i = 0; i < 7; i++) {
                text.append(m.corner(body, i)).append(' ');
            }
            for (int what = 0; what < 3; what++) {
                text.append(m.fan(body, what)).append(' ');
            }
            text.append(m.low(body, 0, 0)).append(' ').append(m.low(body, -3, 2)).append('|');
        }
        return text.append(toldOfTwo(m, 0, 1)).toString();
    }

    /** What is told of two bodies together, by 68 calls. */
    static String toldOfTwo(MixedCells m, int a, int b) {
        StringBuilder text = new StringBuilder();
        for (int what = 0; what < 4; what++) {
            text.append(m.sum(a, b, what)).append(' ');
        }
        for (int i = 0; i < 7; i++) {
            text.append(m.sumCorner(a, b, i, 0)).append(',').append(m.sumCorner(a, b, i, 1)).append(' ');
        }
        for (int what : new int[] {0, 1, 2, 102, 111, 112, 120, 121, 122}) {
            text.append(m.cells(a, b, what)).append(' ');
        }
        for (int i = 0; i < 4; i++) {
            for (int what = 0; what < 5; what++) {
                text.append(m.cell(a, b, i, what)).append(' ');
            }
            for (int what = 0; what < 4; what++) {
                text.append(m.slope(a, b, i, what)).append(' ');
            }
        }
        for (int p : new int[] {2, 3, 5, 7, 13}) {
            text.append(m.roots(a, b, p)).append(' ');
        }
        return text.toString();
    }

    /** What is told, the bodies, and the images; the bodies are then as the last image that is kept. */
    static String everything(MixedCells m) {
        StringBuilder text = new StringBuilder(told(m)).append(state(m));
        for (int k = 0; k < 2; k++) {
            text.append(" image ").append(m.restore(k)).append(' ').append(state(m));
        }
        return text.toString();
    }
}
